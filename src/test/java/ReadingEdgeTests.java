/** The sentences of the document's part 4, promises 17 to 23, that name a boundary case: each has a test. */
public final class ReadingEdgeTests implements Answers {
    private static final String FOUR = "q,14,09,05;w3;b4;s2;w1";

    private static final Due due = new Due("ReadingEdgeTests");

    private ReadingEdgeTests() {
    }

    public static void main(String[] args) {
        readings();
        starts();
        laws();
        hung();
        freed();
        odds();
        due.end();
    }

    private static void readings() {
        readingsOfNoWork();
        readingHours();
        readingLates();
        readingsHookedOrNot();
        eightReadings();
        backUpToAll();
        backOfNone();
        setsWithoutTown();
        setsWithoutReadings();
        eachReadingCounts();
        readingsOfTheFirstAndTheLastHour();
        allElseIsAsItIs();
        questionsChangeNothing();
    }

    private static void allElseIsAsItIs() {
        theStartIsAsItIs();
        theLawIsAsItIs();
        stormsAreAsTheyAre();
        whatIsHookedIsAsItIs();
    }

    private static void starts() {
        startsOfOneToSixTides();
        startAloneIsOtherwise();
    }

    private static void laws() {
        lawsFrom0To2();
        lawsByWhichAWorkGoes();
    }

    private static void hung() {
        hungTakesOneMore();
        hungFromHour0On();
        hungByLaws();
        hungSaintsAndBarnacled();
        hungEachAlone();
        hungUnhooked();
    }

    private static void freed() {
        freedEachAlone();
        freedUnhooked();
        freedIsNotLate();
    }

    private static void odds() {
        oddsLost();
        oddsOfNone();
        oddsInLeastTerms();
        oddsInPlaceOfWhatIsHooked();
        oddsOfHours();
        oddsOfOneToEightWorks();
    }

    private static TideWheels eight(String tides) {
        return Towns.of("q" + tides + Towns.repeated(";w1", 8));
    }

    // ---- readings

    private static void readingsOfNoWork() {
        due.in("promise 17: UNKNOWN");
        for (int n = 1; n <= 8; n++) {
            TideWheels x = Towns.of("q,00" + Towns.repeated(";w1", n));
            for (int k : new int[] {-1, n, LEAST, MOST}) {
                due.is("of " + k, UNKNOWN, x.reading(k, 0, 0));
                due.is("UNKNOWN ahead of OUTSIDE", UNKNOWN, x.reading(k, 60, 0));
                due.is("UNKNOWN ahead of OUTSIDE", UNKNOWN, x.reading(k, 0, 61));
            }
            due.is("many(3)", 0, x.many(3));
            due.is("of the last", 0, x.reading(n - 1, 0, 1));
            due.is("many(3)", 1, x.many(3));
        }
        due.is("without a town", UNKNOWN, new TideWheels().reading(0, 0, 0));
    }

    private static void readingHours() {
        due.in("promise 17: OUTSIDE: hour");
        TideWheels x = Towns.of(FOUR);
        due.is("hour 0", 0, x.reading(0, 0, 1));
        due.is("hour 59", 1, x.reading(0, 59, 60));
        for (int hour : new int[] {-1, 60, LEAST, MOST}) {
            due.is("hour " + hour, OUTSIDE, x.reading(0, hour, 1));
        }
        due.is("many(3)", 2, x.many(3));
    }

    private static void readingLates() {
        due.in("promise 17: OUTSIDE: late (0 .. 60)");
        TideWheels x = Towns.of(FOUR);
        due.is("late 0", 0, x.reading(0, 0, 0));
        due.is("late 60", 1, x.reading(0, 0, 60));
        for (int late : new int[] {-1, 61, LEAST, MOST}) {
            due.is("late " + late, OUTSIDE, x.reading(0, 0, late));
        }
        due.is("many(3)", 2, x.many(3));
    }

    private static void readingsHookedOrNot() {
        due.in("promise 17: of a WORK, HOOKED or not");
        TideWheels x = Towns.of(FOUR);
        x.hook(0, false);
        due.is("the first", 0, x.reading(0, 0, 0));
        due.is("it is not late", 7, x.starts());
        due.is("the second", 1, x.reading(0, 59, 60));
        due.is("nor then", 0, x.starts());
        due.is("many(3)", 2, x.many(3));
        x.hook(0, true);
        due.is("the first is late from hour 0 on", 0, x.starts());
        x.back(2);
        due.is("the first again", 0, x.reading(0, 59, 60));
        due.is("hooked it is so late", 7, x.starts());
    }

    private static void eightReadings() {
        due.in("READINGS, 8 at most, numbered by how many there are ahead (the first one 0)");
        TideWheels x = Towns.of(FOUR);
        for (int r = 0; r < 8; r++) {
            due.is("reading " + r, r, x.reading(3, r, 0));
            due.is("many(3)", r + 1, x.many(3));
        }
        due.is("a ninth", FULL, x.reading(3, 0, 1));
        due.is("UNKNOWN ahead of FULL", UNKNOWN, x.reading(4, 0, 0));
        due.is("OUTSIDE ahead of FULL", OUTSIDE, x.reading(3, 60, 0));
        due.is("OUTSIDE ahead of FULL", OUTSIDE, x.reading(3, 0, 61));
        due.is("many(3)", 8, x.many(3));
        due.is("the ninth does not count", 7, x.starts());
        due.is("back(1)", 7, x.back(1));
        due.is("an eighth again", 7, x.reading(3, 0, 1));
        due.is("the eighth counts", 0, x.starts());
        due.is("a ninth", FULL, x.reading(3, 0, 0));
    }

    private static void backUpToAll() {
        due.in("promise 18: The last k READINGS (0 .. as many as there are)");
        for (int n = 0; n <= 8; n++) {
            for (int k = 0; k <= n; k++) {
                // The first n - k hold, the last k do not.
                TideWheels x = Towns.of(FOUR);
                for (int r = 0; r < n; r++) {
                    x.reading(3, r, r < n - k ? 0 : 1);
                }
                due.is("back(-1)", OUTSIDE, x.back(-1));
                due.is("back(" + (n + 1) + ") of " + n, OUTSIDE, x.back(n + 1));
                due.is("back(least)", OUTSIDE, x.back(LEAST));
                due.is("back(most)", OUTSIDE, x.back(MOST));
                due.is("starts()", k > 0 ? 0 : 7, x.starts());
                due.is("back(" + k + ") of " + n, n - k, x.back(k));
                due.is("many(3)", n - k, x.many(3));
                due.is("starts()", 7, x.starts());
            }
        }
    }

    private static void backOfNone() {
        due.in("promise 18: none there yet, none left");
        TideWheels x = new TideWheels();
        due.is("without a town", 0, x.back(0));
        due.is("without a town", OUTSIDE, x.back(1));
        x = Towns.of(FOUR);
        due.is("none yet", 0, x.back(0));
        due.is("none yet", OUTSIDE, x.back(1));
        x.reading(0, 0, 0);
        due.is("one, but one more", OUTSIDE, x.back(2));
        x.back(1);
        due.is("none left", 0, x.back(0));
        due.is("none left", OUTSIDE, x.back(1));
    }

    private static void setsWithoutTown() {
        due.in("promises 19 to 22: STATE: there is no TOWN");
        TideWheels x = new TideWheels();
        due.is("starts()", STATE, x.starts());
        due.is("laws()", STATE, x.laws());
        due.is("hung()", STATE, x.hung());
        due.is("freed()", STATE, x.freed());
        due.is("a text that is not taken", -104, Towns.tell(x, "q,08"));
        due.is("starts()", STATE, x.starts());
        due.is("laws()", STATE, x.laws());
        due.is("hung()", STATE, x.hung());
        due.is("freed()", STATE, x.freed());
    }

    private static void setsWithoutReadings() {
        due.in("all READINGS are so: of none");
        for (int n = 1; n <= 8; n++) {
            TideWheels x = Towns.of("q" + Towns.repeated(",07", Math.min(n, 6)) + Towns.repeated(";w1", n));
            due.is("starts()", (1 << Math.min(n, 6)) - 1, x.starts());
            due.is("laws()", 7, x.laws());
            due.is("hung()", (1 << n) - 1, x.hung());
            due.is("freed()", (1 << n) - 1, x.freed());
        }
    }

    private static void eachReadingCounts() {
        due.in("all READINGS are so");
        for (int wrong = 0; wrong < 8; wrong++) {
            TideWheels x = eight(",59,59");
            for (int r = 0; r < 8; r++) {
                x.reading(r, 7 * r, r == wrong ? 1 : 0);
            }
            due.is("all but reading " + wrong + ", starts()", 0, x.starts());
            due.is("all but reading " + wrong + ", laws()", 0, x.laws());
            due.is("all but reading " + wrong + ", hung()", 0, x.hung());
            due.is("all but reading " + wrong + ", freed()", 0, x.freed());
            x.back(8 - wrong);
            due.is("those ahead of it, starts()", 3, x.starts());
            due.is("those ahead of it, laws()", 7, x.laws());
            due.is("those ahead of it, hung()", 255, x.hung());
            due.is("those ahead of it, freed()", 255, x.freed());
        }
    }

    private static void readingsOfTheFirstAndTheLastHour() {
        due.in("as an HOUR ended a WORK was so LATE");
        int[][] readings = {{0, 0, 0}, {0, 1, 1}, {0, 2, 0}, {1, 1, 0}, {1, 2, 1}, {1, 3, 0}, {58, 59, 1}, {58, 58, 0},
            {59, 60, 1}, {59, 59, 0}};
        for (int[] reading : readings) {
            TideWheels x = Towns.of("q,00;w1");
            x.reading(0, reading[0], reading[1]);
            String name = "late " + reading[1] + " as hour " + reading[0] + " ended";
            due.is(name + ", starts()", reading[2], x.starts());
            due.is(name + ", laws()", 7 * reading[2], x.laws());
            due.is(name + ", hung()", reading[2], x.hung());
            due.is(name + ", freed()", reading[1] == 0 ? 1 : 0, x.freed());
        }
    }

    private static void theStartIsAsItIs() {
        due.in("one thing alone were otherwise: the START is as it is");
        TideWheels x = Towns.of("q,09,05;w3;w4;w2");
        x.reading(0, 0, 0);
        due.is("laws() from tide 0 on", 7, x.laws());
        x.start(1);
        due.is("laws() from tide 1 on", 2, x.laws());
        x = Towns.of("q,06,05;w5");
        x.reading(0, 0, 1);
        due.is("hung() from tide 0 on", 0, x.hung());
        x.start(1);
        due.is("hung() from tide 1 on", 1, x.hung());
        x = Towns.of("q,04,01;w2;w2");
        x.reading(1, 0, 1);
        due.is("freed() from tide 0 on", 0, x.freed());
        x.start(1);
        due.is("freed() from tide 1 on", 1, x.freed());
    }

    private static void theLawIsAsItIs() {
        due.in("one thing alone were otherwise: the LAW is as it is");
        TideWheels x = Towns.of("q,03;w1;w3;w3");
        x.reading(0, 0, 0);
        due.is("starts() by law 0", 0, x.starts());
        due.is("hung() by law 0", 0, x.hung());
        due.is("freed() by law 0", 1, x.freed());
        x.law(1);
        due.is("starts() by law 1", 1, x.starts());
        due.is("hung() by law 1", 7, x.hung());
        due.is("freed() by law 1", 7, x.freed());
    }

    private static void stormsAreAsTheyAre() {
        due.in("one thing alone were otherwise: STORMS are as they are");
        TideWheels x = Towns.of("q,09;w3;w4;w2");
        x.reading(0, 0, 0);
        due.is("laws()", 7, x.laws());
        x.storm(0, -4);
        due.is("laws() with a storm", 2, x.laws());
        x = Towns.of("q,06;w5");
        x.reading(0, 0, 1);
        due.is("hung()", 0, x.hung());
        x.storm(0, -1);
        due.is("hung() with a storm", 1, x.hung());
        x = Towns.of("q,04;w2;w2");
        x.reading(1, 0, 1);
        due.is("freed()", 0, x.freed());
        due.is("starts()", 0, x.starts());
        x.storm(0, -3);
        due.is("freed() with a storm", 1, x.freed());
        due.is("starts() with a storm", 1, x.starts());
    }

    private static void whatIsHookedIsAsItIs() {
        due.in("one thing alone were otherwise: what is HOOKED is as it is");
        TideWheels x = Towns.of("q,04,02;w2;w2");
        x.reading(0, 0, 0);
        due.is("starts() of both", 1, x.starts());
        x.hook(1, false);
        due.is("starts() of the first", 3, x.starts());
        x = Towns.of("q,05;w3;w4;w2");
        x.reading(0, 0, 0);
        due.is("laws() of all", 2, x.laws());
        x.hook(1, false);
        due.is("laws() without the second", 7, x.laws());
        x = Towns.of("q,04;w2;w2");
        x.reading(0, 0, 1);
        due.is("hung() of both", 3, x.hung());
        x.hook(1, false);
        due.is("hung() of the first", 0, x.hung());
        x.hook(1, true);
        x.storm(0, -3);
        due.is("freed() of both", 2, x.freed());
        x.hook(0, false);
        due.is("freed() of the second", 0, x.freed());
    }

    private static void questionsChangeNothing() {
        due.in("if one thing alone were otherwise");
        TideWheels x = Towns.of(FOUR);
        x.law(1);
        x.start(2);
        x.hook(3, false);
        x.starts();
        x.laws();
        x.hung();
        x.freed();
        due.is("many(4)", 1, x.many(4));
        due.is("many(5)", 2, x.many(5));
        for (int k = 0; k < 4; k++) {
            due.is("takes of " + k, new int[] {3, 5, 6, 1}[k], x.ofWork(k, 2));
            due.is("hooked " + k, k < 3 ? 1 : 0, x.ofWork(k, 3));
        }
        due.is("goes(0)", 1, x.goes(0));
        due.is("goes(1)", 7, x.goes(1));
    }

    // ---- starts

    private static void startsOfOneToSixTides() {
        due.in("STARTS: those (0 .. how many TIDES there are less 1) as a set");
        for (int n = 1; n <= 6; n++) {
            for (int high = 0; high < n; high++) {
                String text = "q" + Towns.repeated(",04", high) + ",05" + Towns.repeated(",04", n - 1 - high) + ";w5";
                TideWheels x = Towns.of(text);
                x.reading(0, 0, 0);
                due.is(text + " goes in hour 0", 1 << high, x.starts());
                x.back(1);
                x.reading(0, 0, 1);
                due.is(text + " does not", (1 << n) - 1 - (1 << high), x.starts());
            }
        }
    }

    private static void startAloneIsOtherwise() {
        due.in("STARTS: one thing alone");
        TideWheels x = Towns.of("q,14,09,05;w3;b4;s2;w1");
        x.reading(2, 0, 1);
        due.is("by law 0", 4, x.starts());
        x.law(1);
        due.is("by law 1", 7, x.starts());
        x.start(2);
        due.is("whichever it is now", 7, x.starts());
        x.law(0);
        due.is("whichever it is now", 4, x.starts());
        x.hook(0, false);
        x.hook(1, false);
        due.is("by what is hooked", 4, x.starts());
        x.storm(0, 2);
        due.is("by storms", 0, x.starts());
    }

    // ---- laws

    private static void lawsFrom0To2() {
        due.in("LAWS, as a set");
        for (int law = 0; law < 3; law++) {
            TideWheels x = Towns.of("q,05;w3;w4;w2");
            x.reading(law, 0, 1);
            // 9 of 5: law 0 stops the first and the second, law 1 the second, law 2 the third and the first.
            due.is("work " + law + " late, laws()", new int[] {5, 3, 4}[law], x.laws());
            due.is("law() is not asked", 0, x.law(2));
            due.is("work " + law + " late, laws()", new int[] {5, 3, 4}[law], x.laws());
        }
    }

    private static void lawsByWhichAWorkGoes() {
        due.in("LAWS: one alone, none");
        TideWheels x = Towns.of("q,05;w3;w4;w2");
        x.reading(0, 0, 0);
        due.is("law 1", 2, x.laws());
        x.reading(1, 0, 0);
        due.is("none", 0, x.laws());
        x.back(2);
        x.reading(1, 0, 0);
        due.is("law 2", 4, x.laws());
        x.back(1);
        x.reading(0, 0, 1);
        x.reading(1, 0, 1);
        due.is("law 0", 1, x.laws());
    }

    // ---- hung

    private static void hungTakesOneMore() {
        due.in("HUNG: WORKS that TAKE 1 more");
        TideWheels x = Towns.of("q,05;w5");
        x.reading(0, 0, 1);
        due.is("just too much", 1, x.hung());
        x.storm(0, 1);
        due.is("just enough", 0, x.hung());
        x = eight(",08");
        x.reading(0, 0, 1);
        due.is("any one of eight", 255, x.hung());
        due.is("none takes more now", 8, x.strength(0));
        due.is("all go now", 255, x.goes(0));
    }

    private static void hungFromHour0On() {
        due.in("HUNG: from HOUR 0 on");
        int[][] readings = {{0, 1}, {1, 2}, {30, 31}, {59, 60}};
        for (int[] reading : readings) {
            TideWheels x = Towns.of("q,05;w5");
            x.reading(0, reading[0], reading[1]);
            due.is("late " + reading[1] + " as hour " + reading[0] + " ended", 1, x.hung());
            x.reading(0, reading[0], reading[1] - 1);
            due.is("and one less", 0, x.hung());
            x.back(2);
            x.reading(0, reading[0], reading[1] - 1);
            due.is("one less alone", 0, x.hung());
        }
    }

    private static void hungByLaws() {
        due.in("HUNG, by each LAW");
        for (int k = 0; k < 8; k++) {
            TideWheels x = eight(",08");
            x.law(1);
            x.reading(k, 0, 1);
            due.is("law 1: it alone takes the most", 1 << k, x.hung());
            x.law(2);
            due.is("law 2: the first of the others", k == 0 ? 254 : k == 1 ? 1 : 0, x.hung());
            x.law(0);
            due.is("law 0: the first", k == 0 ? 255 : 0, x.hung());
        }
    }

    private static void hungSaintsAndBarnacled() {
        due.in("HUNG: SAINTS and BARNACLED TAKE 1 more, too");
        for (String work : new String[] {"w9", "b8", "s4"}) {
            int takes = work.equals("s4") ? 10 : 9;
            TideWheels x = Towns.of("q,0" + takes % 10 + ";" + work);
            x.storm(0, takes - takes % 10);
            x.reading(0, 0, 1);
            due.is(work + ", just too much", 1, x.hung());
            x.storm(0, 1);
            due.is(work + ", just enough", 0, x.hung());
        }
    }

    private static void hungEachAlone() {
        due.in("HUNG: each alone");
        TideWheels x = Towns.of("q,07;w2;w2;w2");
        x.reading(0, 0, 1);
        due.is("two together would do", 0, x.hung());
        x.storm(0, -1);
        due.is("one does", 7, x.hung());
        x.storm(0, -1);
        due.is("any, as it is late without", 7, x.hung());
        x.storm(0, -1);
        x.back(1);
        x.reading(1, 0, 1);
        due.is("the second, if it or the third takes more", 6, x.hung());
    }

    private static void hungUnhooked() {
        due.in("HUNG: a WORK that is not HOOKED");
        TideWheels x = Towns.of("q,04;w2;w2;w2");
        x.hook(2, false);
        x.reading(0, 0, 0);
        due.is("takes nothing", 4, x.hung());
        x.back(1);
        x.reading(0, 0, 1);
        due.is("takes nothing", 3, x.hung());
        x.back(1);
        x.reading(2, 59, 0);
        due.is("it is never late", 7, x.hung());
    }

    // ---- freed

    private static void freedEachAlone() {
        due.in("FREED: WORKS that are not HOOKED (each alone)");
        TideWheels x = eight(",07");
        x.reading(0, 0, 0);
        due.is("any one of eight", 255, x.freed());
        x.storm(0, -1);
        due.is("itself alone: of the others it would be two", 1, x.freed());
        x.reading(1, 0, 0);
        due.is("two together would do", 0, x.freed());
        due.is("all are hooked now", 1, x.ofWork(7, 3));
    }

    private static void freedUnhooked() {
        due.in("FREED: one that is not: as it is");
        TideWheels x = Towns.of("q,04;w2;w2;w2");
        x.hook(2, false);
        x.reading(0, 0, 0);
        x.reading(1, 0, 0);
        due.is("as it is, or one less", 7, x.freed());
        x.hook(2, true);
        due.is("now one has to be freed", 7, x.freed());
        x.reading(2, 0, 0);
        due.is("as it was", 7, x.freed());
        x = Towns.of("q,02;w2;w2;w2");
        x.hook(2, false);
        x.reading(0, 0, 1);
        due.is("as it is, of the third", 4, x.freed());
        x.back(1);
        x.reading(0, 0, 0);
        due.is("not as it is", 3, x.freed());
    }

    private static void freedIsNotLate() {
        due.in("FREED: one that is not HOOKED is not LATE");
        TideWheels x = Towns.of("q,00;w1;w1");
        x.reading(1, 59, 0);
        due.is("the second", 2, x.freed());
        x.back(1);
        x.reading(1, 59, 60);
        due.is("the first", 1, x.freed());
        x.reading(0, 59, 0);
        due.is("the first", 1, x.freed());
        x.reading(0, 0, 1);
        due.is("none", 0, x.freed());
    }

    // ---- odds

    private static void oddsLost() {
        due.in("promise 23: LOST: UNKNOWN: WORK; OUTSIDE: hour, which");
        TideWheels x = Towns.of(FOUR);
        due.is("upper", 7, x.odds(0, 0, 0));
        due.is("lower", 16, x.odds(0, 0, 1));
        due.is("the last work", 1, x.odds(3, 59, 0));
        due.is("the last work", 2, x.odds(3, 59, 1));
        for (int k : new int[] {-1, 4, LEAST, MOST}) {
            due.is("work " + k, LOST, x.odds(k, 0, 0));
        }
        for (int hour : new int[] {-1, 60, LEAST, MOST}) {
            due.is("hour " + hour, LOST, x.odds(0, hour, 0));
        }
        for (int which : new int[] {-1, 2, LEAST, MOST}) {
            due.is("which " + which, LOST, x.odds(0, 0, which));
        }
        due.is("without a town", LOST, new TideWheels().odds(0, 0, 0));
        due.is("without a town", LOST, new TideWheels().odds(0, 0, 1));
    }

    private static void oddsOfNone() {
        due.in("upper and lower number (above 0) in least terms: of none");
        for (int n = 1; n <= 8; n++) {
            TideWheels x = Towns.of("q,00" + Towns.repeated(";w1", n));
            for (int k = 0; k < n; k++) {
                due.is("upper", 0, x.odds(k, 0, 0));
                due.is("lower", 1, x.odds(k, 0, 1));
            }
        }
    }

    private static void oddsInLeastTerms() {
        due.in("upper and lower number (above 0) in least terms");
        TideWheels x = Towns.of("q,59" + Towns.repeated(";w1", 8));
        for (int k = 0; k < 8; k++) {
            due.is("128 of 256", 1, x.odds(k, 0, 0));
            due.is("128 of 256", 2, x.odds(k, 0, 1));
        }
        // Of seven others so many as strength less 1 may be hooked at most, for the first to go.
        int[] uppers = {0, 1, 1, 29, 1, 99, 15, 127, 1};
        int[] lowers = {1, 256, 32, 256, 4, 256, 32, 256, 2};
        for (int strength = 0; strength <= 8; strength++) {
            x = eight(",0" + strength);
            due.is("strength " + strength + ", upper", uppers[strength], x.odds(0, 0, 0));
            due.is("strength " + strength + ", lower", lowers[strength], x.odds(0, 0, 1));
        }
    }

    private static void oddsInPlaceOfWhatIsHooked() {
        due.in("if each WORK is HOOKED, or not (in place of what it is)");
        TideWheels x = Towns.of(FOUR);
        for (int k = 0; k < 4; k++) {
            x.hook(k, false);
        }
        due.is("upper", 7, x.odds(0, 0, 0));
        due.is("lower", 16, x.odds(0, 0, 1));
        for (int k = 0; k < 4; k++) {
            due.is("hooked now", 0, x.ofWork(k, 3));
        }
    }

    private static void oddsOfHours() {
        due.in("ODDS: one GOES in an HOUR, by its STRENGTH and the LAW");
        TideWheels x = Towns.of("q,02,01;w1;w1");
        due.is("hour 0", 2, x.odds(0, 0, 1));
        due.is("hour 1", 4, x.odds(0, 1, 1));
        due.is("hour 58", 2, x.odds(0, 58, 1));
        due.is("hour 59", 4, x.odds(0, 59, 1));
        x.start(1);
        due.is("the other tide", 4, x.odds(0, 0, 1));
        x.storm(0, -1);
        due.is("a storm", 0, x.odds(0, 0, 0));
        due.is("a storm", 1, x.odds(0, 0, 1));
        x = Towns.of("q,02;w2;w1");
        due.is("law 0, upper", 1, x.odds(1, 0, 0));
        due.is("law 0, lower", 2, x.odds(1, 0, 1));
        x.law(2);
        due.is("law 2, upper", 1, x.odds(1, 0, 0));
        due.is("law 2, lower", 4, x.odds(1, 0, 1));
    }

    private static void oddsOfOneToEightWorks() {
        due.in("ODDS: all such sets alike");
        for (int n = 1; n <= 8; n++) {
            TideWheels x = Towns.of("q,01" + Towns.repeated(";w1", n));
            for (int k = 0; k < n; k++) {
                // It goes if none of those behind it is hooked.
                due.is("upper", 1, x.odds(k, 0, 0));
                due.is("work " + k + " of " + n + ", lower", 1 << n - k, x.odds(k, 0, 1));
            }
        }
    }
}
