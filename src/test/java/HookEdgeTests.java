/** The sentences of the document's part 3, promises 14 to 16, that name a boundary case: each has a test. */
public final class HookEdgeTests implements Answers {
    private static final String FOUR = "q,14,09,05;w3;b4;s2;w1";

    private static final Due due = new Due("HookEdgeTests");

    private HookEdgeTests() {
    }

    public static void main(String[] args) {
        fewest();
        help();
        plansOfRows();
        plansRefused();
        due.end();
    }

    private static void fewest() {
        fewestOfNoWork();
        fewestOfNoHours();
        inAllTheseHours();
        fewestNone();
        theFewestOthers();
        ofSeveralSetsTheLeast();
        ofThoseThatAreHooked();
        fewestOfWhatGoes();
        fewestByTheStart();
        fewestChangesNothing();
    }

    private static void help() {
        helpStrengths();
        helpWhats();
        helpWithoutTown();
        lessLateThanNow();
        ofSeveralHoursTheLeast();
        helpOfTheFirstAndTheLastHour();
        helpWhereThereAreSix();
        helpUpFromBelowZero();
    }

    private static void plansOfRows() {
        noRows();
        thirtyRows();
        asThatHourBegins();
        oneRowBehindAnother();
        unhookedOrHooked();
        plansByStartStormsAndLaw();
        firstWrong();
        plansOnEachLane();
    }

    private static void plansRefused() {
        sheetsOfPlans();
        lanesOfPlans();
        sizesOfPlans();
        planWithoutTown();
        placesOfPlans();
        rowsOfNoHour();
        rowsOfNoWork();
        refusedRowsInTheirOrder();
    }

    // ---- fewest

    private static void fewestOfNoWork() {
        due.in("promise 14: UNKNOWN");
        for (int n = 1; n <= 8; n++) {
            TideWheels x = Towns.of("q,59" + Towns.repeated(";w1", n));
            due.is("the last", 0, x.fewest(n - 1, 0, 0));
            for (int k : new int[] {-1, n, LEAST, MOST}) {
                due.is("fewest of " + k, UNKNOWN, x.fewest(k, 0, 0));
                due.is("UNKNOWN ahead of OUTSIDE", UNKNOWN, x.fewest(k, 1, 0));
            }
        }
        due.is("without a town", UNKNOWN, new TideWheels().fewest(0, 0, 0));
    }

    private static void fewestOfNoHours() {
        due.in("promise 14: OUTSIDE: from, to (not below from)");
        TideWheels x = Towns.of("q,59;w1");
        int[][] hours = {{0, 0}, {0, 59}, {59, 59}, {30, 31}};
        for (int[] hour : hours) {
            due.is("from " + hour[0] + " to " + hour[1], 0, x.fewest(0, hour[0], hour[1]));
        }
        int[][] none = {{-1, 0}, {-1, -1}, {60, 60}, {59, 60}, {0, 60}, {1, 0}, {59, 58}, {0, -1}, {LEAST, 0},
            {0, MOST}, {MOST, MOST}, {LEAST, LEAST}, {MOST, LEAST}};
        for (int[] hour : none) {
            due.is("from " + hour[0] + " to " + hour[1], OUTSIDE, x.fewest(0, hour[0], hour[1]));
        }
        x.hook(0, false);
        due.is("OUTSIDE, though it is not HOOKED", OUTSIDE, x.fewest(0, 1, 0));
    }

    private static void inAllTheseHours() {
        due.in("so that it GOES in all these HOURS");
        TideWheels x = Towns.of("q,10;w5;w5");
        x.storm(20, -5);
        int[][] hours = {{0, 19, 0}, {0, 20, 2}, {20, 20, 2}, {20, 59, 2}, {21, 59, 0}, {19, 21, 2}, {0, 59, 2}};
        for (int[] hour : hours) {
            due.is("from " + hour[0] + " to " + hour[1], hour[2], x.fewest(0, hour[0], hour[1]));
        }
        x.calm(1);
        x.storm(0, -5);
        x.storm(59, -6);
        due.is("hour 0", 2, x.fewest(0, 0, 58));
        due.is("neither hour 0 nor hour 59", 0, x.fewest(0, 1, 58));
        due.is("hour 59", NONE, x.fewest(0, 1, 59));
    }

    private static void fewestNone() {
        due.in("NONE: not by all; it is not HOOKED");
        TideWheels x = Towns.of("q,08;w9;w8");
        due.is("not by all", NONE, x.fewest(0, 0, 0));
        due.is("just by all", 0, x.fewest(1, 0, 0));
        x.hook(1, false);
        due.is("it is not HOOKED", NONE, x.fewest(1, 0, 0));
        due.is("no others", NONE, x.fewest(0, 0, 0));
        x = Towns.of("q,59;w1");
        x.hook(0, false);
        due.is("it is not HOOKED, and would go", NONE, x.fewest(0, 0, 59));
    }

    private static void theFewestOthers() {
        due.in("the fewest others to be unhooked");
        // Both 1 and 2 would do as well, and are of less number as a set than 3 alone.
        TideWheels x = Towns.of("q,10;w5;w3;w2;w5");
        due.is("one of a greater number rather than two", 8, x.fewest(0, 0, 0));
        x = Towns.of("q,05;w5;w1;w1;w1");
        due.is("all others, not itself", 14, x.fewest(0, 0, 0));
        x = Towns.of("q,01" + Towns.repeated(";w1", 8));
        due.is("all seven others", 254, x.fewest(0, 0, 59));
        due.is("none", 0, x.fewest(7, 0, 59));
        due.is("one", 128, x.fewest(6, 0, 59));
        x.law(1);
        due.is("law 1", 254, x.fewest(0, 0, 59));
        x.law(2);
        due.is("law 2", 254, x.fewest(0, 0, 59));
    }

    private static void ofSeveralSetsTheLeast() {
        due.in("of several the least");
        TideWheels x = Towns.of("q,07" + Towns.repeated(";w1", 8));
        due.is("one of seven", 2, x.fewest(0, 0, 0));
        x = Towns.of("q,05" + Towns.repeated(";w1", 8));
        due.is("three of seven", 14, x.fewest(0, 0, 0));
        due.is("two of those that stop behind it", 12, x.fewest(1, 0, 0));
        x = Towns.of("q,04;w2;w2;w2");
        x.law(2);
        due.is("the lesser of two", 2, x.fewest(0, 0, 0));
    }

    private static void ofThoseThatAreHooked() {
        due.in("of those that are HOOKED");
        TideWheels x = Towns.of("q,07" + Towns.repeated(";w1", 8));
        x.hook(1, false);
        due.is("goes as it is", 0, x.fewest(0, 0, 0));
        x.storm(0, -1);
        due.is("not the one that is unhooked", 4, x.fewest(0, 0, 0));
        x.storm(0, -5);
        due.is("all that are hooked", 252, x.fewest(0, 0, 0));
    }

    private static void fewestOfWhatGoes() {
        due.in("FEWEST: none, of what GOES as it is");
        for (int law = 0; law < 3; law++) {
            TideWheels x = Towns.of("q,06;w3;b4;s2;w1");
            x.law(law);
            int going = law == 0 ? 8 : law == 1 ? 9 : 4;
            due.is("law " + law + ", goes(0)", going, x.goes(0));
            for (int k = 0; k < 4; k++) {
                boolean goes = (going >> k) % 2 == 1;
                due.is("law " + law + ", work " + k, goes ? 1 : 0, x.fewest(k, 0, 0) == 0 ? 1 : 0);
            }
        }
    }

    private static void fewestByTheStart() {
        due.in("FEWEST, by the START");
        TideWheels x = Towns.of("q,10,05;w5;w5");
        due.is("hour 0", 0, x.fewest(0, 0, 0));
        due.is("hour 1", 2, x.fewest(0, 1, 1));
        x.start(1);
        due.is("hour 0, from tide 1 on", 2, x.fewest(0, 0, 0));
        due.is("hour 1, from tide 1 on", 0, x.fewest(0, 1, 1));
        x.storm(0, 5);
        due.is("hour 0, with a storm", 0, x.fewest(0, 0, 1));
    }

    private static void fewestChangesNothing() {
        due.in("FEWEST changes nothing");
        TideWheels x = Towns.of(FOUR);
        due.is("two", 6, x.fewest(0, 0, 59));
        for (int k = 0; k < 4; k++) {
            due.is("ofWork(" + k + ", 3)", 1, x.ofWork(k, 3));
        }
        due.is("goes(0)", 14, x.goes(0));
    }

    // ---- help

    private static void helpStrengths() {
        due.in("promise 15: OUTSIDE: v (-59 .. 59)");
        TideWheels x = Towns.of("q,00;s9;s9;s9");
        due.is("v 19", NONE, x.help(19, 0));
        due.is("v 20", 0, x.help(20, 0));
        due.is("v 20", 179, x.help(20, 1));
        due.is("v 59", 0, x.help(59, 0));
        due.is("v 59", 178, x.help(59, 1));
        due.is("v -59", NONE, x.help(-59, 0));
        due.is("v -59", 180, x.help(-59, 1));
        for (int v : new int[] {-60, 60, LEAST, MOST}) {
            due.is("v " + v, OUTSIDE, x.help(v, 0));
            due.is("v " + v, OUTSIDE, x.help(v, 1));
        }
    }

    private static void helpWhats() {
        due.in("promise 15: OUTSIDE: what");
        TideWheels x = Towns.of(FOUR);
        due.is("what 0", 2, x.help(10, 0));
        due.is("what 1", 117, x.help(10, 1));
        for (int what : new int[] {-1, 2, LEAST, MOST}) {
            due.is("what " + what, OUTSIDE, x.help(10, what));
        }
    }

    private static void helpWithoutTown() {
        due.in("promise 15: STATE: there is no TOWN");
        TideWheels x = new TideWheels();
        due.is("what 0", STATE, x.help(0, 0));
        due.is("what 1", STATE, x.help(59, 1));
        due.is("OUTSIDE ahead of STATE", OUTSIDE, x.help(60, 0));
        due.is("OUTSIDE ahead of STATE", OUTSIDE, x.help(0, 2));
    }

    private static void lessLateThanNow() {
        due.in("the least LATE by HOUR 59, less than now; NONE: none helps; as now");
        TideWheels x = Towns.of(FOUR);
        due.is("0 does not help", NONE, x.help(0, 0));
        due.is("as now", 120, x.help(0, 1));
        due.is("just too little", NONE, x.help(-1, 0));
        due.is("1 is enough", 0, x.help(1, 0));
        due.is("one less", 119, x.help(1, 1));
        x = Towns.of("q,03;w5");
        due.is("1 is too little", NONE, x.help(1, 0));
        due.is("as now", 60, x.help(1, 1));
        due.is("2 is just enough", 0, x.help(2, 0));
        due.is("one less", 59, x.help(2, 1));
        x = Towns.of("q,05;w5");
        due.is("none is late", NONE, x.help(59, 0));
        due.is("as now", 0, x.help(59, 1));
        x.storm(5, -1);
        x.hook(0, false);
        due.is("none is hooked", NONE, x.help(59, 0));
        due.is("as now", 0, x.help(59, 1));
    }

    private static void ofSeveralHoursTheLeast() {
        due.in("HELP: of several the least");
        TideWheels x = Towns.of("q,05,03,01;w5;w1");
        due.is("hour 0 alone", 0, x.help(1, 0));
        due.is("as well as hour 1", 0, x.help(3, 0));
        due.is("as well as all hours", 0, x.help(5, 0));
        x.start(1);
        due.is("hour 2 alone", 2, x.help(1, 0));
        x = Towns.of("q,04,05;w5");
        due.is("the first of thirty", 0, x.help(1, 0));
        x.start(1);
        due.is("the first of thirty", 1, x.help(1, 0));
        x.storm(1, 1);
        due.is("the second of thirty", 3, x.help(1, 0));
    }

    private static void helpOfTheFirstAndTheLastHour() {
        due.in("HELP: HOURS 0 .. 59");
        for (int hour = 0; hour < 60; hour++) {
            TideWheels x = Towns.of("q,05;w5");
            x.storm(hour, -3);
            due.is("what 0", hour, x.help(3, 0));
            due.is("what 1", 0, x.help(3, 1));
            due.is("too little", NONE, x.help(2, 0));
            due.is("too little", 1, x.help(2, 1));
        }
    }

    private static void helpWhereThereAreSix() {
        due.in("one STORM more (also where there are 6)");
        TideWheels x = Towns.of("q,06;w6");
        for (int s = 0; s < 6; s++) {
            x.storm(7, -1);
        }
        due.is("helps", 7, x.help(6, 0));
        due.is("none late", 0, x.help(6, 1));
        due.is("too little", NONE, x.help(5, 0));
        due.is("one late", 1, x.help(5, 1));
        due.is("many(2)", 6, x.many(2));
        due.is("strength(7)", 0, x.strength(7));
    }

    private static void helpUpFromBelowZero() {
        due.in("HELP: what is below 0 in all is 0");
        TideWheels x = Towns.of("q,09;w9");
        x.storm(4, -20);
        due.is("19 is too little", NONE, x.help(19, 0));
        due.is("20 is just enough", 4, x.help(20, 0));
        due.is("strength(4)", 0, x.strength(4));
    }

    // ---- plans

    private static void noRows() {
        due.in("A PLAN of no rows");
        TideWheels x = Towns.of(FOUR);
        due.is("as now", 120, Towns.plan(x));
        x.hook(2, false);
        due.is("as now", 40, Towns.plan(x));
        for (int k = 0; k < 4; k++) {
            x.hook(k, false);
        }
        due.is("none is hooked", 0, Towns.plan(x));
    }

    private static void thirtyRows() {
        due.in("promise 16: OUTSIDE: n (0 .. 30)");
        TideWheels x = Towns.of("q,00;w1");
        int[] rows = new int[60];
        for (int r = 0; r < 30; r++) {
            rows[2 * r] = 2 * r;
        }
        x.sheet(0, 2, 60);
        Towns.putAll(x, 0, rows);
        due.is("thirty rows", 30, x.plan(0, 2, 0, 30));
        due.is("twenty-nine rows", 28, x.plan(0, 2, 0, 29));
        due.is("one row", 0, x.plan(0, 2, 0, 1));
        due.is("no row", 60, x.plan(0, 2, 0, 0));
        for (int n : new int[] {-1, 31, 32, LEAST, MOST, LEAST + 1, MOST / 2 + 1}) {
            due.is(n + " rows", OUTSIDE, x.plan(0, 2, 0, n));
            due.is("fault()", 0, x.fault());
        }
    }

    private static void asThatHourBegins() {
        due.in("as that HOUR begins: how LATE all are together by HOUR 59");
        TideWheels x = Towns.of("q,00;w1");
        for (int hour = 0; hour < 60; hour++) {
            due.is("unhooked as hour " + hour + " begins", hour, Towns.plan(x, hour, 0));
        }
        x.hook(0, false);
        for (int hour = 0; hour < 60; hour++) {
            due.is("hooked as hour " + hour + " begins", 60 - hour, Towns.plan(x, hour, 0));
        }
    }

    private static void oneRowBehindAnother() {
        due.in("one row behind another");
        TideWheels x = Towns.of("q,00;w1;w1");
        due.is("to and fro in an hour", 120, Towns.plan(x, 5, 0, 5, 0));
        due.is("thrice in an hour", 65, Towns.plan(x, 5, 0, 5, 0, 5, 0));
        due.is("two in an hour", 10, Towns.plan(x, 5, 0, 5, 1));
        due.is("off, and on in the next", 119, Towns.plan(x, 5, 0, 6, 0));
        due.is("both in hour 59", 118, Towns.plan(x, 59, 0, 59, 1));
        due.is("both in hour 0", 0, Towns.plan(x, 0, 1, 0, 0));
    }

    private static void unhookedOrHooked() {
        due.in("it is unhooked, if it was HOOKED, else HOOKED (from what is HOOKED now)");
        TideWheels x = Towns.of("q,01;w1;w1");
        x.hook(1, false);
        due.is("the second hooked: the first is late", 60, Towns.plan(x, 0, 1));
        due.is("the other one unhooked", 0, Towns.plan(x, 0, 1, 0, 0));
        due.is("hooked now", 1, x.ofWork(0, 3));
        due.is("unhooked now", 0, x.ofWork(1, 3));
        x = Towns.of("q,00" + Towns.repeated(";w1", 8));
        due.is("the eighth", 480 - 57, Towns.plan(x, 3, 7));
    }

    private static void plansByStartStormsAndLaw() {
        due.in("A PLAN: how LATE all are together, by the START, STORMS, the LAW");
        TideWheels x = Towns.of("q,01,00;w1");
        due.is("strength 1 in hour 0", 0, Towns.plan(x, 1, 0));
        x.start(1);
        due.is("strength 0 in hour 0", 1, Towns.plan(x, 1, 0));
        x.storm(0, 1);
        due.is("a storm in hour 0", 0, Towns.plan(x, 1, 0));
        x = Towns.of("q,04;w3;w2;w2");
        due.is("law 0 stops one in hour 0", 1, Towns.plan(x, 1, 0));
        x.law(2);
        due.is("law 2 stops two in hour 0", 2, Towns.plan(x, 1, 0));
        x.law(1);
        due.is("law 1 stops one in hour 0", 1, Towns.plan(x, 1, 0));
    }

    private static void firstWrong() {
        due.in("FIRST WRONG: the first row of which the HOUR is below that of the row ahead");
        TideWheels x = Towns.of("q,00;w1");
        due.is("none of one row", 0, Towns.plan(x, 0, 0));
        due.is("alike is not below", 60, Towns.plan(x, 59, 0, 59, 0));
        due.is("one below", -101, Towns.plan(x, 59, 0, 58, 0));
        due.is("from 1 to 0", -101, Towns.plan(x, 1, 0, 0, 0));
        due.is("the first of two", -102, Towns.plan(x, 1, 0, 1, 0, 0, 0, 5, 0, 4, 0));
        due.is("below the row ahead, not below all", -102, Towns.plan(x, 1, 0, 9, 0, 8, 0));
        due.is("fault()", 0, x.fault());
        int[] rows = new int[60];
        for (int r = 0; r < 29; r++) {
            rows[2 * r] = 1;
        }
        due.is("the thirtieth", -129, Towns.plan(x, rows));
    }

    private static void plansOnEachLane() {
        due.in("A PLAN of n times two such cells");
        for (int lane = 0; lane < 3; lane++) {
            TideWheels x = Towns.of("q,00;w1;w1");
            x.sheet(0, lane, 7);
            Towns.putAll(x, 0, 9, 0, 7, 1, 59, 0, 3);
            due.is("from 1 on, one", UNKNOWN, x.plan(0, lane, 1, 1));
            due.is("from 2 on, one", 67, x.plan(0, lane, 2, 1));
            due.is("from 2 on, two", 7 + 59, x.plan(0, lane, 2, 2));
            due.is("from 0 on, one", 69, x.plan(0, lane, 0, 1));
            due.is("from 0 on, two", -101, x.plan(0, lane, 0, 2));
            due.is("from 0 on, three", -101, x.plan(0, lane, 0, 3));
            Towns.putAll(x, 0, 60, 9, 7, 1, 60, 9, 3);
            due.is("just the row between two that are not as told", 67, x.plan(0, lane, 2, 1));
            Towns.putAll(x, 0, 8, 0, 7, 1, 6, 0, 3);
            due.is("the row between two, the first alone above it", 67, x.plan(0, lane, 2, 1));
        }
    }

    // ---- plans refused

    private static void sheetsOfPlans() {
        due.in("promise 16: UNKNOWN: SHEET");
        TideWheels x = Towns.of("q,00;w1");
        for (int k = 0; k < 4; k++) {
            due.is("nothing on sheet " + k, NULL, x.plan(k, 0, 0, 0));
            due.is("fault()", 1, x.fault());
            x.sheet(k, 0, 0);
            due.is("no rows on sheet " + k, 60, x.plan(k, 0, 0, 0));
            due.is("fault()", 0, x.fault());
        }
        for (int k : new int[] {-1, 4, LEAST, MOST}) {
            due.is("sheet " + k, UNKNOWN, x.plan(k, 0, 0, 0));
        }
    }

    private static void lanesOfPlans() {
        due.in("promise 16: OUTSIDE: lane; CAST; NULL");
        TideWheels x = Towns.of("q,00;w1");
        for (int lane = 0; lane < 3; lane++) {
            due.is("nothing is no CAST", NULL, x.plan(3, lane, 0, 0));
            x.sheet(lane, lane, 2);
            for (int as = 0; as < 3; as++) {
                due.is(lane + " as " + as, as == lane ? 60 : CAST, x.plan(lane, as, 0, 0));
                due.is("fault()", as == lane ? 0 : 2, x.fault());
            }
        }
        for (int lane : new int[] {-1, 3, LEAST, MOST}) {
            due.is("lane " + lane, OUTSIDE, x.plan(0, lane, 0, 0));
            due.is("lane " + lane + " of nothing", OUTSIDE, x.plan(3, lane, 0, 0));
        }
    }

    private static void sizesOfPlans() {
        due.in("promise 16: n below 0 is OUTSIDE, ahead of all FAULTS");
        TideWheels x = Towns.of("q,00;w1");
        due.is("of nothing", OUTSIDE, x.plan(0, 0, 0, -1));
        due.is("of nothing", OUTSIDE, x.plan(0, 0, 0, 31));
        x.sheet(0, 1, 2);
        due.is("of another lane", OUTSIDE, x.plan(0, 0, 0, -1));
        due.is("beyond", OUTSIDE, x.plan(0, 1, 3, 31));
    }

    private static void planWithoutTown() {
        due.in("promise 16: STATE: there is no TOWN");
        TideWheels x = new TideWheels();
        due.is("of nothing", STATE, x.plan(0, 0, 0, 0));
        x.sheet(0, 0, 2);
        due.is("no rows", STATE, x.plan(0, 0, 0, 0));
        due.is("one row", STATE, x.plan(0, 0, 0, 1));
        due.is("ahead of CAST", STATE, x.plan(0, 1, 0, 0));
        due.is("ahead of INDEX", STATE, x.plan(0, 0, -1, 0));
        due.is("behind OUTSIDE", OUTSIDE, x.plan(0, 3, 0, 0));
        due.is("behind OUTSIDE", OUTSIDE, x.plan(0, 0, 0, 31));
        due.is("fault()", 0, x.fault());
    }

    private static void placesOfPlans() {
        due.in("promise 16: INDEX, if none of them is taken, too");
        TideWheels x = Towns.of("q,00;w1");
        x.sheet(0, 0, 5);
        due.is("two rows", 60, x.plan(0, 0, 0, 2));
        due.is("fault()", 0, x.fault());
        due.is("three rows", INDEX, x.plan(0, 0, 0, 3));
        due.is("fault()", 3, x.fault());
        due.is("the last two cells", 0, x.plan(0, 0, 3, 1));
        due.is("the last cell", INDEX, x.plan(0, 0, 4, 1));
        due.is("at the end", INDEX, x.plan(0, 0, 5, 1));
        due.is("none, at the end", 60, x.plan(0, 0, 5, 0));
        due.is("none, beyond the end", INDEX, x.plan(0, 0, 6, 0));
        due.is("none, i -1", INDEX, x.plan(0, 0, -1, 0));
        due.is("one, i -1", INDEX, x.plan(0, 0, -1, 1));
        due.is("i most", INDEX, x.plan(0, 0, MOST, 30));
        due.is("i least", INDEX, x.plan(0, 0, LEAST, 30));
        x.put(0, 0, 60);
        due.is("INDEX ahead of rows", INDEX, x.plan(0, 0, 0, 3));
        due.is("rows", OUTSIDE, x.plan(0, 0, 0, 2));
    }

    private static void rowsOfNoHour() {
        due.in("promise 16: of all rows OUTSIDE: it is no HOUR");
        TideWheels x = Towns.of("q,00;w1");
        due.is("hour 0", 0, Towns.plan(x, 0, 0));
        due.is("hour 59", 59, Towns.plan(x, 59, 0));
        for (int hour : new int[] {-1, 60, LEAST, MOST}) {
            due.is("hour " + hour, OUTSIDE, Towns.plan(x, hour, 0));
            due.is("hour " + hour + " of no work", OUTSIDE, Towns.plan(x, hour, 1));
            due.is("hour " + hour + " in the second row", OUTSIDE, Towns.plan(x, 5, 0, hour, 0));
        }
        int[] rows = new int[60];
        rows[58] = 60;
        due.is("in the thirtieth row", OUTSIDE, Towns.plan(x, rows));
        x.sheet(0, 2, 60);
        Towns.putAll(x, 0, rows);
        due.is("behind the rows told", 0, x.plan(0, 2, 0, 29));
    }

    private static void rowsOfNoWork() {
        due.in("promise 16: of all rows UNKNOWN: it is no WORK");
        for (int n = 1; n <= 8; n++) {
            TideWheels x = Towns.of("q,00" + Towns.repeated(";w1", n));
            due.is("the last work", 60 * n - 60, Towns.plan(x, 0, n - 1));
            for (int k : new int[] {-1, n, 32, LEAST, MOST}) {
                due.is("work " + k, UNKNOWN, Towns.plan(x, 0, k));
                due.is("work " + k + " in the second row", UNKNOWN, Towns.plan(x, 0, 0, 0, k));
            }
        }
    }

    private static void refusedRowsInTheirOrder() {
        due.in("promise 16: of all rows, one behind another, OUTSIDE; UNKNOWN; then -100 less the FIRST WRONG");
        TideWheels x = Towns.of("q,00;w1");
        due.is("UNKNOWN in the first row", UNKNOWN, Towns.plan(x, 0, 1, 60, 0));
        due.is("OUTSIDE in the first row", OUTSIDE, Towns.plan(x, 60, 0, 0, 1));
        due.is("OUTSIDE behind the FIRST WRONG", OUTSIDE, Towns.plan(x, 5, 0, 4, 0, 60, 0));
        due.is("UNKNOWN behind the FIRST WRONG", UNKNOWN, Towns.plan(x, 5, 0, 4, 0, 5, 1));
        due.is("a row that is OUTSIDE and below", OUTSIDE, Towns.plan(x, 5, 0, -1, 0));
        due.is("a row that is UNKNOWN and below", UNKNOWN, Towns.plan(x, 5, 0, 4, 1));
        due.is("the FIRST WRONG alone", -101, Towns.plan(x, 5, 0, 4, 0));
    }
}
