import java.util.regex.Matcher;
import java.util.regex.Pattern;

/** The sentences of the document's part 1, promises 1 to 8, that name a boundary case: each has a test. */
public final class TownEdgeTests implements Answers {
    private static final String FOUR = "q,14,09,05;w3;b4;s2;w1";
    private static final String MOST_TEXT = "q,59,00,09,10,50,49;w1;w9;b1;b9;s1;s9;w2;b8";
    private static final Pattern TEXT = Pattern.compile("q(,[0-5][0-9]){1,6}(;[wbs][1-9]){1,8}");

    private static final Due due = new Due("TownEdgeTests");

    private TownEdgeTests() {
    }

    public static void main(String[] args) {
        newObject();
        texts();
        firstFaults();
        townsOfSheets();
        allAnew();
        works();
        lawsAndStarts();
        storms();
        due.end();
    }

    private static void texts() {
        oneToSixTides();
        twoDigits();
        oneToEightWorks();
        threeLetters();
        aDigitFrom1();
        takesOfKinds();
    }

    private static void firstFaults() {
        theCommaOfASeventhTide();
        aCommaBehindAWork();
        theSemicolonOfANinthWork();
        endsTooSoon();
        theFirstOfSeveral();
        anyOneCodeOtherwise();
        codesAreWholeNumbers();
    }

    private static void townsOfSheets() {
        sheetsOfTowns();
        lanesOfTowns();
        sizesOfTowns();
        placesOfTowns();
        justTheCellsTold();
    }

    private static void allAnew() {
        allWorksAreHooked();
        noStorms();
        noReadings();
        lawAndStartAre0();
        traceAndSheetsStay();
        sheetsChangedAfterwards();
        fewerAndMoreThanBefore();
    }

    private static void works() {
        numbersOfWorks();
        whatOfWorks();
        hooksThatWereSo();
        hooksOfNoWork();
    }

    private static void lawsAndStarts() {
        lawsFrom0To2();
        lawWithoutTown();
        startsBelowTides();
        startWithoutTides();
    }

    private static void storms() {
        stormHours();
        stormStrengths();
        sixStorms();
        stormWithoutTown();
        calmUpToAll();
        calmOfNone();
    }

    private static String works(int n) {
        return Towns.repeated(";w1", n);
    }

    private static String tides(int n) {
        return "q" + Towns.repeated(",08", n);
    }

    // ---- a new object

    private static void newObject() {
        due.in("No TOWN (no TIDES, WORKS), SHEETS have nothing");
        TideWheels x = new TideWheels();
        due.is("fault()", 0, x.fault());
        due.is("trace()", 0, x.trace());
        for (int what = 0; what < 6; what++) {
            due.is("many(" + what + ")", 0, x.many(what));
        }
        for (int k = 0; k < 8; k++) {
            due.is("ofWork(" + k + ", 0)", UNKNOWN, x.ofWork(k, 0));
        }
        for (int k = 0; k < 4; k++) {
            due.is("put(" + k + ", 0, 0)", NULL, x.put(k, 0, 0));
            due.is("lose(" + k + ")", 0, x.lose(k));
        }
        due.is("strength(0)", STATE, x.strength(0));
        due.is("goes(0)", STATE, x.goes(0));
        due.is("all(0)", STATE, x.all(0));
        due.is("alike(0)", STATE, x.alike(0));
        due.is("starts()", STATE, x.starts());
        due.is("laws()", STATE, x.laws());
        due.is("hung()", STATE, x.hung());
        due.is("freed()", STATE, x.freed());
    }

    // ---- texts

    private static void oneToSixTides() {
        due.in("1 to 6 TIDES");
        TideWheels x = new TideWheels();
        due.is("none", -101, Towns.tell(x, tides(0) + works(1)));
        for (int n = 1; n <= 6; n++) {
            due.is(n + " tides", 1, Towns.tell(x, tides(n) + works(1)));
            due.is("many(1)", n, x.many(1));
        }
        due.is("seven", -119, Towns.tell(x, tides(7) + works(1)));
        due.is("many(1)", 6, x.many(1));
    }

    private static void twoDigits() {
        due.in("two digits 00 .. 59");
        for (int strength = 0; strength <= 59; strength++) {
            TideWheels x = new TideWheels();
            due.is("tide of " + strength, 1, Towns.tell(x, "q," + strength / 10 + strength % 10 + ";w1"));
            due.is("strength(0)", strength, x.strength(0));
        }
        TideWheels x = new TideWheels();
        due.is("60", -102, Towns.tell(x, "q,60;w1"));
        due.is("99", -102, Towns.tell(x, "q,99;w1"));
        due.is("below the first digit 0", -102, Towns.tell(x, "q,/0;w1"));
        due.is("below the second digit 0", -103, Towns.tell(x, "q,0/;w1"));
        due.is("above the second digit 9", -103, Towns.tell(x, "q,5:;w1"));
        due.is("one digit", -103, Towns.tell(x, "q,5;w1"));
        due.is("three digits", -104, Towns.tell(x, "q,010;w1"));
        due.is("60 in the sixth tide", -117, Towns.tell(x, tides(5) + ",60" + works(1)));
        due.is("5: in the sixth tide", -118, Towns.tell(x, tides(5) + ",5:" + works(1)));
    }

    private static void oneToEightWorks() {
        due.in("1 to 8 WORKS");
        TideWheels x = new TideWheels();
        due.is("none", -104, Towns.tell(x, tides(1) + works(0)));
        for (int n = 1; n <= 8; n++) {
            due.is(n + " works", n, Towns.tell(x, tides(1) + works(n)));
            due.is("many(0)", n, x.many(0));
        }
        due.is("nine", -128, Towns.tell(x, tides(1) + works(9)));
        due.is("many(0)", 8, x.many(0));
    }

    private static void threeLetters() {
        due.in("Kinds: 0 WORK (w); 1 BARNACLED (b), a WORK; 2 SAINT (s), a BARNACLED");
        TideWheels x = Towns.of("q,08;w1;b1;s1");
        for (int kind = 0; kind < 3; kind++) {
            due.is("ofWork(" + kind + ", 0)", kind, x.ofWork(kind, 0));
        }
        for (char code : new char[] {'a', 'c', 'r', 't', 'v', 'x', 'W', 'B', 'S', 'q', ';', '1', 0}) {
            due.is("letter " + (int) code, -105, Towns.tell(new TideWheels(), "q,08;" + code + "1"));
            due.is("second letter " + (int) code, -108, Towns.tell(new TideWheels(), "q,08;w1;" + code + "1"));
        }
    }

    private static void aDigitFrom1() {
        due.in("a digit 1 .. 9 (WEIGHT)");
        TideWheels x = new TideWheels();
        for (int weight = 1; weight <= 9; weight++) {
            due.is("weight " + weight, 1, Towns.tell(x, "q,08;w" + weight));
            due.is("ofWork(0, 1)", weight, x.ofWork(0, 1));
        }
        due.is("0", -106, Towns.tell(x, "q,08;w0"));
        due.is("above 9", -106, Towns.tell(x, "q,08;w:"));
        due.is("two digits", -107, Towns.tell(x, "q,08;w10"));
        due.is("0 of the eighth", -127, Towns.tell(x, tides(1) + works(7) + ";w0"));
    }

    private static void takesOfKinds() {
        due.in("of a WORK its WEIGHT; of a BARNACLED one 1 more; of a SAINT twice what a BARNACLED one does");
        for (int weight = 1; weight <= 9; weight++) {
            TideWheels x = Towns.of("q,08;w" + weight + ";b" + weight + ";s" + weight);
            due.is("WORK of " + weight, weight, x.ofWork(0, 2));
            due.is("BARNACLED of " + weight, weight + 1, x.ofWork(1, 2));
            due.is("SAINT of " + weight, 2 * (weight + 1), x.ofWork(2, 2));
        }
    }

    // ---- first faults

    private static void theCommaOfASeventhTide() {
        due.in("the , of a seventh TIDE");
        due.is("with what follows", -119, Towns.tell(new TideWheels(), tides(7) + works(1)));
        due.is("the , alone", -119, Towns.tell(new TideWheels(), tides(6) + ","));
        due.is("of a sixth it just ends", -117, Towns.tell(new TideWheels(), tides(5) + ","));
    }

    private static void aCommaBehindAWork() {
        due.in("one behind a WORK");
        for (int n = 1; n <= 8; n++) {
            String text = tides(1) + works(n);
            due.is("a , behind " + n, -100 - text.length(), Towns.tell(new TideWheels(), text + ",08"));
        }
    }

    private static void theSemicolonOfANinthWork() {
        due.in("the ; of a ninth WORK");
        due.is("with what follows", -128, Towns.tell(new TideWheels(), tides(1) + works(9)));
        due.is("the ; alone", -128, Towns.tell(new TideWheels(), tides(1) + works(8) + ";"));
        due.is("of an eighth it just ends", -126, Towns.tell(new TideWheels(), tides(1) + works(7) + ";"));
    }

    private static void endsTooSoon() {
        due.in("how many codes there are, if it just ends too soon");
        for (int length = 0; length <= MOST_TEXT.length(); length++) {
            String start = MOST_TEXT.substring(0, length);
            boolean ends = length > 19 && (length - 19) % 3 == 0;
            due.is(start, ends ? (length - 19) / 3 : -100 - length, Towns.tell(new TideWheels(), start));
        }
    }

    private static void theFirstOfSeveral() {
        due.in("the first code with which no TEXT goes on");
        due.is("of all codes", -100, Towns.tell(new TideWheels(), "xxxxxxx"));
        due.is("of two", -102, Towns.tell(new TideWheels(), "q,60;w0"));
        due.is("not the first one that is missing", -104, Towns.tell(new TideWheels(), "q,08w1"));
    }

    /** What is due is looked up by a pattern: a start of a text is one that the pattern could go on with. */
    private static int dueOf(String codes) {
        for (int end = 1; end <= codes.length(); end++) {
            Matcher start = TEXT.matcher(codes.substring(0, end));
            if (!start.matches() && !start.hitEnd()) {
                return -100 - (end - 1);
            }
        }
        int works = (int) codes.chars().filter(code -> code == ';').count();
        return TEXT.matcher(codes).matches() ? works : -100 - codes.length();
    }

    private static void isAsByPattern(String codes) {
        due.is(codes, dueOf(codes), Towns.tell(new TideWheels(), codes));
    }

    private static void anyOneCodeOtherwise() {
        due.in("any one code otherwise, one less, one more");
        for (String text : new String[] {"q,00;w1", FOUR, MOST_TEXT}) {
            for (int place = 0; place <= text.length(); place++) {
                String ahead = text.substring(0, place);
                String from = text.substring(place);
                for (char code = 0; code < 128; code++) {
                    isAsByPattern(ahead + code + from);
                    isAsByPattern(from.isEmpty() ? ahead : ahead + code + from.substring(1));
                }
                isAsByPattern(from.isEmpty() ? ahead : ahead + from.substring(1));
            }
        }
    }

    private static void codesAreWholeNumbers() {
        due.in("Codes: q 113, w 119, b 98, s 115, ; 59, comma 44, digits 48 .. 57");
        int[] codes = {113, 44, 48, 57, 59, 119, 49, 59, 98, 57, 59, 115, 49};
        for (int lane = 0; lane < 3; lane++) {
            TideWheels x = new TideWheels();
            x.sheet(0, lane, codes.length);
            Towns.putAll(x, 0, codes);
            due.is("as told, lane " + lane, 3, x.town(0, lane, 0, codes.length));
            for (int i = 0; i < codes.length; i++) {
                x.put(0, i, codes[i] + 256);
                due.is("256 more, lane " + lane, lane == 0 ? 3 : -100 - i, x.town(0, lane, 0, codes.length));
                x.put(0, i, codes[i] - 65536);
                due.is("65536 less, lane " + lane, lane < 2 ? 3 : -100 - i, x.town(0, lane, 0, codes.length));
                x.put(0, i, codes[i]);
            }
            due.is("as told again", 3, x.town(0, lane, 0, codes.length));
        }
    }

    // ---- towns of sheets

    private static void sheetsOfTowns() {
        due.in("promise 2: UNKNOWN");
        TideWheels x = new TideWheels();
        for (int k = 0; k < 4; k++) {
            due.is("nothing on sheet " + k, NULL, x.town(k, 0, 0, 0));
            x.sheet(k, 0, 7);
            Towns.putAll(x, k, 'q', ',', '0', '8', ';', 'w', '1');
            due.is("sheet " + k, 1, x.town(k, 0, 0, 7));
        }
        for (int k : new int[] {-1, 4, LEAST, MOST}) {
            due.is("sheet " + k, UNKNOWN, x.town(k, 0, 0, 7));
        }
    }

    private static void lanesOfTowns() {
        due.in("promise 2: OUTSIDE: lane; CAST (nothing is no CAST); NULL");
        TideWheels x = new TideWheels();
        for (int lane = 0; lane < 3; lane++) {
            due.is("nothing is no CAST", NULL, x.town(3, lane, 0, 0));
            x.sheet(lane, lane, 7);
            Towns.putAll(x, lane, 'q', ',', '0', '8', ';', 'w', '1');
            for (int as = 0; as < 3; as++) {
                due.is(lane + " as " + as, as == lane ? 1 : CAST, x.town(lane, as, 0, 7));
                due.is("fault()", as == lane ? 0 : 2, x.fault());
            }
        }
        for (int lane : new int[] {-1, 3, LEAST, MOST}) {
            due.is("lane " + lane, OUTSIDE, x.town(0, lane, 0, 7));
            due.is("lane " + lane + " of nothing", OUTSIDE, x.town(3, lane, 0, 7));
        }
    }

    private static void sizesOfTowns() {
        due.in("promise 2: SIZE: n below 0");
        TideWheels x = new TideWheels();
        x.sheet(0, 0, 5);
        due.is("n -1", SIZE, x.town(0, 0, 0, -1));
        due.is("fault()", 4, x.fault());
        due.is("n least", SIZE, x.town(0, 0, 5, LEAST));
        due.is("n 0", -100, x.town(0, 0, 0, 0));
        due.is("fault()", 0, x.fault());
        x.sheet(0, 0, 0);
        due.is("n 0 of none", -100, x.town(0, 0, 0, 0));
        due.is("n 1 of none", INDEX, x.town(0, 0, 0, 1));
    }

    private static void placesOfTowns() {
        due.in("promise 2: INDEX, if none of them is taken, too");
        TideWheels x = new TideWheels();
        x.sheet(0, 0, 5);
        due.is("all", -100, x.town(0, 0, 0, 5));
        due.is("one more", INDEX, x.town(0, 0, 0, 6));
        due.is("fault()", 3, x.fault());
        due.is("the last", -100, x.town(0, 0, 4, 1));
        due.is("the last and one more", INDEX, x.town(0, 0, 4, 2));
        due.is("none, i -1", INDEX, x.town(0, 0, -1, 0));
        due.is("one, i -1", INDEX, x.town(0, 0, -1, 1));
        due.is("none, at the end", -100, x.town(0, 0, 5, 0));
        due.is("one, at the end", INDEX, x.town(0, 0, 5, 1));
        due.is("none, beyond the end", INDEX, x.town(0, 0, 6, 0));
        due.is("a sum that wraps", INDEX, x.town(0, 0, 1, MOST));
        due.is("a sum that wraps", INDEX, x.town(0, 0, MOST, 1));
        due.is("a sum that wraps", INDEX, x.town(0, 0, MOST, MOST));
        due.is("i least", INDEX, x.town(0, 0, LEAST, MOST));
        due.is("many(0)", 0, x.many(0));
    }

    private static void justTheCellsTold() {
        due.in("n cells of a SHEET from i on");
        TideWheels x = new TideWheels();
        x.sheet(0, 2, 12);
        Towns.putAll(x, 0, 'q', 'q', ',', '0', '8', ';', 'w', '1', ';', 'b', '2', ';');
        due.is("from 1 on, one work", 1, x.town(0, 2, 1, 7));
        due.is("from 1 on, two works", 2, x.town(0, 2, 1, 10));
        due.is("from 1 on, a ; more", -111, x.town(0, 2, 1, 11));
        due.is("from 0 on", -101, x.town(0, 2, 0, 12));
        due.is("from 2 on", -100, x.town(0, 2, 2, 6));
        x.sheet(0, 2, 60);
        for (int i = 0; i < MOST_TEXT.length(); i++) {
            x.put(0, i + 17, MOST_TEXT.charAt(i));
        }
        due.is("the last of sixty", 8, x.town(0, 2, 17, 43));
        due.is("all of sixty", -100, x.town(0, 2, 0, 60));
        due.is("one beyond sixty", INDEX, x.town(0, 2, 17, 44));
    }

    // ---- all anew

    private static void allWorksAreHooked() {
        due.in("all WORKS are HOOKED");
        TideWheels x = Towns.of(FOUR);
        for (int k = 0; k < 4; k++) {
            x.hook(k, false);
        }
        Towns.tell(x, MOST_TEXT);
        for (int k = 0; k < 8; k++) {
            due.is("ofWork(" + k + ", 3)", 1, x.ofWork(k, 3));
        }
    }

    private static void noStorms() {
        due.in("no STORMS");
        TideWheels x = Towns.of(FOUR);
        for (int s = 0; s < 6; s++) {
            x.storm(s, 10);
        }
        Towns.tell(x, FOUR);
        due.is("many(2)", 0, x.many(2));
        due.is("strength(0)", 14, x.strength(0));
        due.is("calm(1)", OUTSIDE, x.calm(1));
        due.is("the first is number 0", 0, x.storm(0, 1));
        due.is("strength(0)", 15, x.strength(0));
        due.is("strength(1)", 9, x.strength(1));
    }

    private static void noReadings() {
        due.in("no READINGS");
        TideWheels x = Towns.of(FOUR);
        for (int r = 0; r < 8; r++) {
            x.reading(r % 4, 0, 60);
        }
        Towns.tell(x, FOUR);
        due.is("many(3)", 0, x.many(3));
        due.is("starts()", 7, x.starts());
        due.is("back(1)", OUTSIDE, x.back(1));
        due.is("the first is number 0", 0, x.reading(0, 0, 1));
        due.is("starts()", 7, x.starts());
    }

    private static void lawAndStartAre0() {
        due.in("the LAW is 0, the START 0");
        TideWheels x = Towns.of(FOUR);
        x.law(1);
        x.start(2);
        Towns.tell(x, FOUR);
        due.is("many(4)", 0, x.many(4));
        due.is("many(5)", 0, x.many(5));
        due.is("strength(0)", 14, x.strength(0));
        due.is("goes(1)", 12, x.goes(1));
        due.is("law(2)", 0, x.law(2));
        due.is("start(1)", 0, x.start(1));
    }

    private static void traceAndSheetsStay() {
        due.in("TRACE, SHEETS stay");
        TideWheels x = Towns.of(FOUR);
        x.ring(0);
        x.sheet(0, 0, 1);
        x.sheet(1, 1, 2);
        x.sheet(2, 2, 22);
        x.put(0, 0, 7);
        x.put(1, 1, 8);
        for (int i = 0; i < FOUR.length(); i++) {
            x.put(2, i, FOUR.charAt(i));
        }
        due.is("town", 4, x.town(2, 2, 0, 22));
        due.is("trace()", 4, x.trace());
        due.is("bytes", 7, x.cell(0, 0, 0));
        due.is("shorts", 8, x.cell(1, 1, 1));
        for (int i = 0; i < FOUR.length(); i++) {
            due.is("the text's own sheet", FOUR.charAt(i), x.cell(2, i, 2));
        }
        due.is("nothing", 0, x.lose(3));
    }

    private static void sheetsChangedAfterwards() {
        due.in("A TOWN by a TEXT: what comes to the SHEET afterwards is not the TOWN's");
        TideWheels x = new TideWheels();
        x.sheet(0, 0, FOUR.length());
        for (int i = 0; i < FOUR.length(); i++) {
            x.put(0, i, FOUR.charAt(i));
        }
        due.is("town", 4, x.town(0, 0, 0, FOUR.length()));
        for (int i = 0; i < FOUR.length(); i++) {
            x.put(0, i, 'x');
        }
        due.is("strength(1)", 9, x.strength(1));
        due.is("goes(1)", 12, x.goes(1));
        due.is("ofWork(2, 2)", 6, x.ofWork(2, 2));
        x.lose(0);
        due.is("strength(2)", 5, x.strength(2));
        due.is("goes(2)", 8, x.goes(2));
        due.is("laws()", 7, x.laws());
    }

    private static void fewerAndMoreThanBefore() {
        due.in("A TEXT that is taken makes all anew");
        TideWheels x = Towns.of(MOST_TEXT);
        due.is("eight", 20, x.ofWork(5, 2));
        due.is("fewer", 2, Towns.tell(x, "q,09;w9;w8"));
        for (int k = 2; k < 8; k++) {
            due.is("no work " + k, UNKNOWN, x.ofWork(k, 2));
        }
        due.is("one tide", 1, x.many(1));
        due.is("strength(1)", 9, x.strength(1));
        due.is("start(1)", OUTSIDE, x.start(1));
        due.is("goes(0)", 2, x.goes(0));
        due.is("odds of two", 4, x.odds(0, 0, 1));
        due.is("freed()", 3, x.freed());
        due.is("more", 8, Towns.tell(x, MOST_TEXT));
        due.is("six tides", 6, x.many(1));
        due.is("strength(5)", 49, x.strength(5));
        due.is("freed()", 255, x.freed());
    }

    // ---- works

    private static void numbersOfWorks() {
        due.in("promise 3: UNKNOWN");
        for (int n = 1; n <= 8; n++) {
            TideWheels x = Towns.of(tides(1) + works(n));
            due.is("the first", 1, x.ofWork(0, 1));
            due.is("the last", 1, x.ofWork(n - 1, 1));
            due.is("one beyond", UNKNOWN, x.ofWork(n, 1));
            due.is("one below", UNKNOWN, x.ofWork(-1, 1));
            due.is("least", UNKNOWN, x.ofWork(LEAST, 1));
            due.is("most", UNKNOWN, x.ofWork(MOST, 1));
        }
    }

    private static void whatOfWorks() {
        due.in("promise 3: OUTSIDE");
        TideWheels x = Towns.of("q,08;s9");
        int[] answers = {2, 9, 20, 1};
        for (int what = 0; what < 4; what++) {
            due.is("what " + what, answers[what], x.ofWork(0, what));
        }
        for (int what : new int[] {-1, 4, LEAST, MOST}) {
            due.is("what " + what, OUTSIDE, x.ofWork(0, what));
            due.is("of no work", UNKNOWN, x.ofWork(1, what));
        }
        x.hook(0, false);
        due.is("what 3", 0, x.ofWork(0, 3));
    }

    private static void hooksThatWereSo() {
        due.in("promise 6: 1; 0: it was so");
        TideWheels x = Towns.of(MOST_TEXT);
        for (int k = 0; k < 8; k++) {
            due.is("hooked already", 0, x.hook(k, true));
            due.is("unhooked", 1, x.hook(k, false));
            due.is("ofWork(" + k + ", 3)", 0, x.ofWork(k, 3));
            due.is("unhooked already", 0, x.hook(k, false));
            due.is("ofWork(" + k + ", 3)", 0, x.ofWork(k, 3));
        }
        due.is("none goes", 0, x.goes(0));
        for (int k = 0; k < 8; k++) {
            due.is("hooked", 1, x.hook(k, true));
            due.is("ofWork(" + k + ", 3)", 1, x.ofWork(k, 3));
            due.is("the next is not", k < 7 ? 0 : UNKNOWN, x.ofWork(k + 1, 3));
        }
    }

    private static void hooksOfNoWork() {
        due.in("promise 6: UNKNOWN");
        TideWheels x = Towns.of(FOUR);
        for (int k : new int[] {-1, 4, 32, LEAST, MOST}) {
            due.is("hook " + k, UNKNOWN, x.hook(k, true));
            due.is("unhook " + k, UNKNOWN, x.hook(k, false));
        }
        due.is("without a town", UNKNOWN, new TideWheels().hook(0, true));
        due.is("without a town", UNKNOWN, new TideWheels().hook(0, false));
    }

    // ---- laws and starts

    private static void lawsFrom0To2() {
        due.in("promise 4: OUTSIDE: 0 .. 2");
        TideWheels x = Towns.of(FOUR);
        int was = 0;
        for (int v : new int[] {0, 2, 1, 1, 0}) {
            due.is("law " + v, was, x.law(v));
            due.is("many(4)", v, x.many(4));
            was = v;
        }
        x.law(2);
        for (int v : new int[] {-1, 3, LEAST, MOST}) {
            due.is("law " + v, OUTSIDE, x.law(v));
            due.is("many(4)", 2, x.many(4));
            due.is("goes(1)", 4, x.goes(1));
        }
    }

    private static void lawWithoutTown() {
        due.in("promise 4: STATE: there is no TOWN");
        TideWheels x = new TideWheels();
        for (int v = 0; v < 3; v++) {
            due.is("law " + v, STATE, x.law(v));
        }
        due.is("law -1", OUTSIDE, x.law(-1));
        due.is("law 3", OUTSIDE, x.law(3));
        Towns.tell(x, FOUR);
        due.is("many(4)", 0, x.many(4));
    }

    private static void startsBelowTides() {
        due.in("promise 5: OUTSIDE: 0 .. how many TIDES there are less 1");
        for (int n = 1; n <= 6; n++) {
            TideWheels x = Towns.of(tides(n) + works(1));
            due.is("the last tide", 0, x.start(n - 1));
            due.is("many(5)", n - 1, x.many(5));
            for (int v : new int[] {-1, n, LEAST, MOST}) {
                due.is("start " + v, OUTSIDE, x.start(v));
                due.is("many(5)", n - 1, x.many(5));
            }
            due.is("the same again", n - 1, x.start(n - 1));
            due.is("many(5)", n - 1, x.many(5));
            due.is("the first tide", n - 1, x.start(0));
            due.is("many(5)", 0, x.many(5));
        }
    }

    private static void startWithoutTides() {
        due.in("promise 5: all, if there are none");
        for (int v : new int[] {-1, 0, 1, 5, 6}) {
            due.is("start " + v, OUTSIDE, new TideWheels().start(v));
        }
    }

    // ---- storms

    private static void stormHours() {
        due.in("promise 7: OUTSIDE: hour");
        TideWheels x = Towns.of(FOUR);
        due.is("hour 0", 0, x.storm(0, 1));
        due.is("hour 59", 1, x.storm(59, 1));
        due.is("strength(0)", 15, x.strength(0));
        due.is("strength(59)", 6, x.strength(59));
        for (int hour : new int[] {-1, 60, LEAST, MOST}) {
            due.is("hour " + hour, OUTSIDE, x.storm(hour, 1));
        }
        due.is("many(2)", 2, x.many(2));
    }

    private static void stormStrengths() {
        due.in("promise 7: OUTSIDE: v (-59 .. 59)");
        TideWheels x = Towns.of("q,59;w1");
        due.is("v 59", 0, x.storm(0, 59));
        due.is("strength(0)", 118, x.strength(0));
        due.is("v -59", 1, x.storm(1, -59));
        due.is("strength(1)", 0, x.strength(1));
        due.is("v 0", 2, x.storm(2, 0));
        due.is("strength(2)", 59, x.strength(2));
        for (int v : new int[] {-60, 60, LEAST, MOST}) {
            due.is("v " + v, OUTSIDE, x.storm(3, v));
        }
        due.is("strength(3)", 59, x.strength(3));
        due.is("many(2)", 3, x.many(2));
    }

    private static void sixStorms() {
        due.in("STORMS, 6 at most, numbered by how many there are ahead (the first one 0)");
        TideWheels x = Towns.of(FOUR);
        for (int s = 0; s < 6; s++) {
            due.is("storm " + s, s, x.storm(0, 1));
            due.is("many(2)", s + 1, x.many(2));
            due.is("strength(0)", 15 + s, x.strength(0));
        }
        due.is("a seventh", FULL, x.storm(0, 1));
        due.is("OUTSIDE ahead of FULL", OUTSIDE, x.storm(60, 1));
        due.is("OUTSIDE ahead of FULL", OUTSIDE, x.storm(0, 60));
        due.is("many(2)", 6, x.many(2));
        due.is("strength(0)", 20, x.strength(0));
        due.is("calm(1)", 5, x.calm(1));
        due.is("a sixth again", 5, x.storm(0, 2));
        due.is("strength(0)", 21, x.strength(0));
        due.is("a seventh", FULL, x.storm(0, 1));
    }

    private static void stormWithoutTown() {
        due.in("promise 7: STATE: there is no TOWN");
        TideWheels x = new TideWheels();
        due.is("storm", STATE, x.storm(0, 0));
        due.is("STATE ahead of OUTSIDE", STATE, x.storm(60, 0));
        due.is("STATE ahead of OUTSIDE", STATE, x.storm(0, 60));
        due.is("many(2)", 0, x.many(2));
    }

    private static void calmUpToAll() {
        due.in("promise 8: The last k STORMS (0 .. as many as there are)");
        for (int n = 0; n <= 6; n++) {
            for (int k = 0; k <= n; k++) {
                TideWheels x = Towns.of(FOUR);
                for (int s = 0; s < n; s++) {
                    x.storm(0, 1 << s);
                }
                due.is("calm(-1)", OUTSIDE, x.calm(-1));
                due.is("calm(" + (n + 1) + ") of " + n, OUTSIDE, x.calm(n + 1));
                due.is("calm(least)", OUTSIDE, x.calm(LEAST));
                due.is("calm(most)", OUTSIDE, x.calm(MOST));
                due.is("strength(0)", 13 + (1 << n), x.strength(0));
                due.is("calm(" + k + ") of " + n, n - k, x.calm(k));
                due.is("many(2)", n - k, x.many(2));
                due.is("strength(0)", 13 + (1 << n - k), x.strength(0));
            }
        }
    }

    private static void calmOfNone() {
        due.in("promise 8: none there yet, none left");
        TideWheels x = new TideWheels();
        due.is("without a town", 0, x.calm(0));
        due.is("without a town", OUTSIDE, x.calm(1));
        x = Towns.of(FOUR);
        due.is("none yet", 0, x.calm(0));
        due.is("none yet", OUTSIDE, x.calm(1));
        x.storm(0, 1);
        x.calm(1);
        due.is("none left", 0, x.calm(0));
        due.is("none left", OUTSIDE, x.calm(1));
    }
}
