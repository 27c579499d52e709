/** The sentences of the document's part 2, promises 9 to 13, that name a boundary case: each has a test. */
public final class HourEdgeTests implements Answers {
    private static final String FOUR = "q,14,09,05;w3;b4;s2;w1";
    private static final int[] NO_HOURS = {-1, 60, LEAST, MOST};

    private static final Due due = new Due("HourEdgeTests");

    private HourEdgeTests() {
    }

    public static void main(String[] args) {
        hoursFrom0To59();
        hoursWithoutTown();
        countedRoundAllTides();
        strengths();
        stops();
        lateness();
        allGo();
        lateAlike();
        due.end();
    }

    private static void strengths() {
        stormsOfTheirHourAlone();
        belowZeroInAll();
        theMostAndTheLeast();
    }

    private static void stops() {
        noMoreThanTheStrength();
        tillNoneIsLeft();
        lawOfTheLeastNumber();
        lawOfThoseThatTakeTheMost();
        lawOfThoseThatTakeTheLeast();
        onlyThoseThatAreHooked();
        eightWorks();
    }

    private static void lateness() {
        lateOfNoWork();
        lateAsAnHourEnds();
        neverLateUnhooked();
        lateByLaws();
    }

    private static void allGo() {
        allFromTheHourItselfOn();
        allInNoHour();
        allOfNone();
        allOfThoseThatAreHooked();
    }

    private static void lateAlike() {
        alikeFromTheHourItselfOn();
        alikeCountsFromHour0();
        alikeNever();
        alikeOfNone();
        alikeOfOne();
        alikeOfThoseThatAreHooked();
        alikeAboveZero();
    }

    // ---- hours

    private static void hoursFrom0To59() {
        due.in("HOURS 0 .. 59");
        TideWheels x = Towns.of("q,14;w3");
        for (int hour : new int[] {0, 59}) {
            due.is("strength " + hour, 14, x.strength(hour));
            due.is("goes " + hour, 1, x.goes(hour));
            due.is("late " + hour, 0, x.late(0, hour));
            due.is("all " + hour, hour, x.all(hour));
            due.is("alike " + hour, hour, x.alike(hour));
        }
        for (int hour : NO_HOURS) {
            due.is("strength " + hour, OUTSIDE, x.strength(hour));
            due.is("goes " + hour, OUTSIDE, x.goes(hour));
            due.is("late " + hour, OUTSIDE, x.late(0, hour));
            due.is("late of no work " + hour, UNKNOWN, x.late(1, hour));
            due.is("all " + hour, OUTSIDE, x.all(hour));
            due.is("alike " + hour, OUTSIDE, x.alike(hour));
        }
    }

    private static void hoursWithoutTown() {
        due.in("promises 9, 10, 12, 13: OUTSIDE; STATE: there is no TOWN");
        TideWheels x = new TideWheels();
        for (int hour : new int[] {0, 59}) {
            due.is("strength " + hour, STATE, x.strength(hour));
            due.is("goes " + hour, STATE, x.goes(hour));
            due.is("late " + hour, UNKNOWN, x.late(0, hour));
            due.is("all " + hour, STATE, x.all(hour));
            due.is("alike " + hour, STATE, x.alike(hour));
        }
        for (int hour : NO_HOURS) {
            due.is("strength " + hour, OUTSIDE, x.strength(hour));
            due.is("goes " + hour, OUTSIDE, x.goes(hour));
            due.is("late " + hour, UNKNOWN, x.late(0, hour));
            due.is("all " + hour, OUTSIDE, x.all(hour));
            due.is("alike " + hour, OUTSIDE, x.alike(hour));
        }
    }

    private static void countedRoundAllTides() {
        due.in("number (START and h), counted round all TIDES");
        for (int n = 1; n <= 6; n++) {
            StringBuilder text = new StringBuilder("q");
            for (int t = 0; t < n; t++) {
                text.append(',').append(t).append(9 - t);
            }
            TideWheels x = Towns.of(text + ";w1");
            for (int start = 0; start < n; start++) {
                x.start(start);
                for (int hour = 0; hour < 60; hour++) {
                    int tide = (start + hour) % n;
                    due.is(n + " tides from " + start + ", strength " + hour, 9 + 9 * tide, x.strength(hour));
                }
            }
        }
    }

    // ---- strengths

    private static void stormsOfTheirHourAlone() {
        due.in("at an HOUR so much STRENGTH more (or less)");
        for (int hour : new int[] {0, 1, 30, 58, 59}) {
            TideWheels x = Towns.of("q,20;w1");
            x.storm(hour, 7);
            x.storm(hour, -9);
            for (int h = 0; h < 60; h++) {
                due.is("storms at " + hour + ", strength " + h, h == hour ? 18 : 20, x.strength(h));
            }
        }
        TideWheels x = Towns.of("q,20,05;w1");
        x.storm(3, 1);
        x.start(1);
        due.is("a storm is of the hour, not of the tide", 21, x.strength(3));
        due.is("another hour of that tide", 5, x.strength(2));
    }

    private static void belowZeroInAll() {
        due.in("what is below 0 in all is 0");
        TideWheels x = Towns.of("q,09;w1");
        x.storm(3, -8);
        due.is("1 in all", 1, x.strength(3));
        due.is("goes(3)", 1, x.goes(3));
        x.storm(3, -1);
        due.is("0 in all", 0, x.strength(3));
        due.is("goes(3)", 0, x.goes(3));
        x.storm(3, -1);
        due.is("-1 in all", 0, x.strength(3));
        x.storm(3, 1);
        due.is("again 0 in all", 0, x.strength(3));
        x.storm(3, 1);
        due.is("again 1 in all", 1, x.strength(3));
        x = Towns.of("q,09;w1");
        x.storm(3, -59);
        x.storm(3, 59);
        due.is("below 0 only on the way", 9, x.strength(3));
    }

    private static void theMostAndTheLeast() {
        due.in("the most and the least STRENGTH");
        TideWheels x = Towns.of("q,59,00;w1");
        for (int s = 0; s < 6; s++) {
            x.storm(s / 3, s < 3 ? 59 : -59);
        }
        due.is("three storms", 59 + 3 * 59, x.strength(0));
        due.is("three storms less", 0, x.strength(1));
        x.calm(6);
        for (int s = 0; s < 6; s++) {
            x.storm(58, 59);
        }
        due.is("six storms", 59 + 6 * 59, x.strength(58));
        x.calm(6);
        for (int s = 0; s < 6; s++) {
            x.storm(58, -59);
        }
        due.is("six storms less", 0, x.strength(58));
    }

    // ---- what stops

    private static void noMoreThanTheStrength() {
        due.in("till those that are left TAKE no more together than the STRENGTH");
        for (int law = 0; law < 3; law++) {
            TideWheels x = Towns.of("q,15,14;w3;b4;s2;w1");
            x.law(law);
            due.is("just so much", 15, x.goes(0));
            due.is("one less", law == 0 ? 14 : law == 1 ? 11 : 7, x.goes(1));
            x = Towns.of("q,12,11;w3;b4;s2;w1");
            due.is("just so much when one has stopped", 14, x.goes(0));
            due.is("one less", 12, x.goes(1));
        }
    }

    private static void tillNoneIsLeft() {
        due.in("of the WORKS one after another STOPS: at last all");
        for (int law = 0; law < 3; law++) {
            TideWheels x = Towns.of("q,00,01;w1;w2;w1");
            x.law(law);
            due.is("strength 0", 0, x.goes(0));
            due.is("strength 1", law < 2 ? 4 : 0, x.goes(1));
        }
    }

    private static void lawOfTheLeastNumber() {
        due.in("by LAW 0 always the one of the least number");
        TideWheels x = Towns.of("q,15,14,12,11,07,06;w3;b4;s2;w1");
        int[] sets = {15, 14, 14, 12, 12, 8};
        for (int hour = 0; hour < 6; hour++) {
            due.is("goes " + hour, sets[hour], x.goes(hour));
        }
    }

    private static void lawOfThoseThatTakeTheMost() {
        due.in("by LAW 1 the one that TAKES the most; of several the least number");
        TideWheels x = Towns.of("q,16,15,12,11,07,03;w4;b3;s1;w4");
        x.law(1);
        int[] sets = {15, 14, 14, 12, 8, 0};
        for (int hour = 0; hour < 6; hour++) {
            due.is("alike, goes " + hour, sets[hour], x.goes(hour));
        }
        x = Towns.of("q,14,09,08,03,02;w3;b4;s2;w1");
        x.law(1);
        int[] others = {11, 11, 9, 8, 8};
        for (int hour = 0; hour < 5; hour++) {
            due.is("goes " + hour, others[hour], x.goes(hour));
        }
        x = Towns.of("q,09;w9;s4");
        x.law(1);
        due.is("what it TAKES, not its WEIGHT", 1, x.goes(0));
    }

    private static void lawOfThoseThatTakeTheLeast() {
        due.in("by LAW 2 the one that TAKES the least; of several the least number");
        TideWheels x = Towns.of("q,16,15,12,11,07,03;w4;b3;s1;w4");
        x.law(2);
        int[] sets = {15, 14, 14, 12, 8, 0};
        for (int hour = 0; hour < 6; hour++) {
            due.is("alike, goes " + hour, sets[hour], x.goes(hour));
        }
        x = Towns.of("q,14,13,11,10,06,05;w3;b4;s2;w1");
        x.law(2);
        int[] others = {7, 6, 6, 4, 4, 0};
        for (int hour = 0; hour < 6; hour++) {
            due.is("goes " + hour, others[hour], x.goes(hour));
        }
        x = Towns.of("q,10;w9;s4");
        x.law(2);
        due.is("what it TAKES, not its WEIGHT", 2, x.goes(0));
    }

    private static void onlyThoseThatAreHooked() {
        due.in("of the WORKS that are HOOKED");
        TideWheels x = Towns.of("q,06;w3;b4;s2;w1");
        x.hook(2, false);
        due.is("law 0", 10, x.goes(0));
        x.law(1);
        due.is("law 1", 9, x.goes(0));
        x.law(2);
        due.is("law 2", 2, x.goes(0));
        for (int k = 0; k < 4; k++) {
            x.hook(k, false);
        }
        due.is("none", 0, x.goes(0));
    }

    private static void eightWorks() {
        due.in("WORKS numbered from 0 on, bit k for number k");
        TideWheels x = Towns.of("q,59,20,19,00;w9;w9;w9;w9;w9;w9;s9;s9");
        x.storm(0, 35);
        due.is("94 of 94", 255, x.goes(0));
        due.is("20", 128, x.goes(1));
        due.is("19", 0, x.goes(2));
        due.is("0", 0, x.goes(3));
        x.law(1);
        due.is("20, law 1", 48, x.goes(1));
        x.calm(1);
        x.storm(0, 34);
        due.is("93 of 94, law 1", 255 - 64, x.goes(0));
    }

    // ---- how late

    private static void lateOfNoWork() {
        due.in("promise 11: UNKNOWN");
        for (int n = 1; n <= 8; n++) {
            TideWheels x = Towns.of("q,00" + Towns.repeated(";w1", n));
            due.is("the last", 1, x.late(n - 1, 0));
            for (int k : new int[] {-1, n, LEAST, MOST}) {
                due.is("late of " + k, UNKNOWN, x.late(k, 0));
                due.is("late of " + k + " in no hour", UNKNOWN, x.late(k, 60));
            }
        }
        due.is("without a town", UNKNOWN, new TideWheels().late(0, 0));
    }

    private static void lateAsAnHourEnds() {
        due.in("A WORK that is HOOKED and does not GO is 1 HOUR LATER: as an HOUR ends");
        TideWheels x = Towns.of("q,00;w1");
        for (int hour = 0; hour < 60; hour++) {
            due.is("never goes, late " + hour, hour + 1, x.late(0, hour));
        }
        x = Towns.of("q,01;w1");
        for (int hour = 0; hour < 60; hour++) {
            due.is("always goes, late " + hour, 0, x.late(0, hour));
        }
        x.storm(59, -1);
        due.is("ahead of the last hour", 0, x.late(0, 58));
        due.is("as the last hour ends", 1, x.late(0, 59));
        x.storm(0, -1);
        due.is("as the first hour ends", 1, x.late(0, 0));
        due.is("as the last hour ends", 2, x.late(0, 59));
    }

    private static void neverLateUnhooked() {
        due.in("one that is not HOOKED is not");
        TideWheels x = Towns.of("q,00;w1;w1");
        x.hook(1, false);
        due.is("unhooked", 0, x.late(1, 59));
        due.is("hooked", 60, x.late(0, 59));
        x.hook(1, true);
        due.is("hooked again, from hour 0 on", 60, x.late(1, 59));
    }

    private static void lateByLaws() {
        due.in("how LATE, by each LAW and START");
        int[][] lates = {{60, 40, 20, 0}, {0, 20, 60, 0}, {40, 40, 20, 60}};
        TideWheels x = Towns.of(FOUR);
        for (int law = 0; law < 3; law++) {
            x.law(law);
            for (int k = 0; k < 4; k++) {
                due.is("law " + law + ", late " + k, lates[law][k], x.late(k, 59));
            }
        }
        x.start(2);
        due.is("from the last tide on", 1, x.late(2, 0));
    }

    // ---- all go

    private static void allFromTheHourItselfOn() {
        due.in("the first HOUR from one on in which all that are HOOKED do");
        TideWheels x = Towns.of("q,00;w5");
        x.storm(0, 5);
        x.storm(30, 5);
        x.storm(59, 5);
        x.storm(20, 4);
        int[][] hours = {{0, 0}, {1, 30}, {20, 30}, {29, 30}, {30, 30}, {31, 59}, {58, 59}, {59, 59}};
        for (int[] hour : hours) {
            due.is("all " + hour[0], hour[1], x.all(hour[0]));
        }
    }

    private static void allInNoHour() {
        due.in("promise 12: NONE: in none");
        TideWheels x = Towns.of("q,00;w5");
        due.is("all 0", NONE, x.all(0));
        due.is("all 59", NONE, x.all(59));
        x.storm(58, 5);
        due.is("all 0", 58, x.all(0));
        due.is("all 58", 58, x.all(58));
        due.is("all 59", NONE, x.all(59));
        due.is("there is no hour 60", NONE, Towns.of("q,05,00;w5").all(59));
    }

    private static void allOfNone() {
        due.in("ALL GO: none, too");
        TideWheels x = Towns.of("q,00;w5;w1");
        x.hook(0, false);
        due.is("one is left", NONE, x.all(0));
        x.hook(1, false);
        for (int hour = 0; hour < 60; hour++) {
            due.is("all " + hour, hour, x.all(hour));
        }
    }

    private static void allOfThoseThatAreHooked() {
        due.in("ALL GO: all that are HOOKED");
        TideWheels x = Towns.of("q,05;w5;w1");
        due.is("both", NONE, x.all(0));
        x.hook(1, false);
        due.is("the first alone", 0, x.all(0));
        x.hook(1, true);
        x.hook(0, false);
        due.is("the second alone", 7, x.all(7));
    }

    // ---- late alike

    private static void alikeFromTheHourItselfOn() {
        due.in("the first HOUR from one on as which ends all that are HOOKED are LATE alike");
        TideWheels x = Towns.of("q,10;w5;b4");
        due.is("alike 0", 0, x.alike(0));
        due.is("alike 59", 59, x.alike(59));
        x.storm(10, -5);
        due.is("alike 9", 9, x.alike(9));
        due.is("alike 10", NONE, x.alike(10));
        x = Towns.of("q,00,59;w1;w2");
        due.is("both stop, both go", 0, x.alike(0));
        due.is("both stop, both go", 59, x.alike(59));
    }

    private static void alikeCountsFromHour0() {
        due.in("ALIKE: how LATE they are from HOUR 0 on, not from the HOUR asked");
        TideWheels x = Towns.of("q,10;w5;w5");
        x.storm(3, -5);
        due.is("ahead of the storm", 2, x.alike(2));
        due.is("the first is 1 late, though all go from then on", NONE, x.alike(4));
        x.storm(3, -5);
        due.is("both are 1 late", 4, x.alike(4));
    }

    private static void alikeNever() {
        due.in("promise 13: NONE: never");
        TideWheels x = Towns.of("q,05;w5;w5");
        due.is("alike 0", NONE, x.alike(0));
        due.is("alike 59", NONE, x.alike(59));
        x.storm(0, 5);
        due.is("alike 0", 0, x.alike(0));
        due.is("alike 1", NONE, x.alike(1));
        x = Towns.of("q,10;w5;w5");
        x.storm(59, -5);
        due.is("alike 58", 58, x.alike(58));
        due.is("alike 59", NONE, x.alike(59));
    }

    private static void alikeOfNone() {
        due.in("ALIKE: none, too");
        TideWheels x = Towns.of("q,05;w5;w5");
        x.hook(0, false);
        x.hook(1, false);
        for (int hour = 0; hour < 60; hour++) {
            due.is("alike " + hour, hour, x.alike(hour));
        }
    }

    private static void alikeOfOne() {
        due.in("ALIKE: of one");
        for (int k = 0; k < 2; k++) {
            TideWheels x = Towns.of("q,03;w5;w5");
            x.hook(k, false);
            due.is("alike 0", 0, x.alike(0));
            due.is("alike 59", 59, x.alike(59));
        }
    }

    private static void alikeOfThoseThatAreHooked() {
        due.in("ALIKE: all that are HOOKED");
        TideWheels x = Towns.of("q,00;w5;w5;w5");
        x.hook(0, false);
        due.is("without the first, that is not late", 5, x.alike(5));
        x.hook(0, true);
        x.hook(2, false);
        due.is("without the last, that is not late", 5, x.alike(5));
        x = Towns.of("q,59" + Towns.repeated(";w1", 8));
        x.storm(0, -52);
        due.is("the first alone is late", NONE, x.alike(0));
        x.law(1);
        due.is("and by law 1", NONE, x.alike(0));
        x.hook(0, false);
        due.is("without it", 0, x.alike(0));
        x = Towns.of("q,10;w5;w5;w5");
        due.is("the third makes the first one stop", NONE, x.alike(0));
        x.hook(2, false);
        due.is("not when it is unhooked", 0, x.alike(0));
    }

    private static void alikeAboveZero() {
        due.in("ALIKE: above 0");
        TideWheels x = Towns.of("q,06;w3;b2;w1");
        x.law(1);
        x.storm(0, -6);
        due.is("strength 0 stops all three", 0, x.alike(0));
        due.is("then the first alone", NONE, x.alike(1));
        x.hook(0, false);
        due.is("the others are 1 late", 1, x.late(1, 59));
        due.is("the others are 1 late", 1, x.late(2, 59));
        due.is("alike 59", 59, x.alike(59));
    }
}
