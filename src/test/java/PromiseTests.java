/** For each promise: ordinary answers, the edges that the document names, wrong arguments. */
public final class PromiseTests {
    private static final int UNKNOWN = -1, OUTSIDE = -2, STATE = -3, FULL = -4, NONE = -9;
    private static final int NULL = -11, CAST = -12, INDEX = -13, SIZE = -14;
    private static final long LOST = Long.MIN_VALUE;
    private static final int LEAST = Integer.MIN_VALUE, MOST = Integer.MAX_VALUE;

    /** Takes 3, 5, 6, 1 of 14, 9, 5. */
    private static final String FOUR = "q,14,09,05;w3;b4;s2;w1";

    private static final Due due = new Due("PromiseTests");

    private PromiseTests() {
    }

    public static void main(String[] args) {
        theTown();
        hours();
        hooksAndStorms();
        howLateWorksWere();
        sheetsAndParts();
        due.end();
    }

    private static void theTown() {
        newObject();
        townTakesTexts();
        townFindsFirstFaults();
        townRefuses();
        townMakesAllAnew();
        ofWork();
        law();
        start();
        hook();
        storm();
        calm();
    }

    private static void hours() {
        strength();
        goes();
        late();
        all();
        alike();
    }

    private static void hooksAndStorms() {
        fewest();
        help();
        planAnswers();
        planRefuses();
    }

    private static void howLateWorksWere() {
        reading();
        back();
        starts();
        laws();
        hung();
        freed();
        odds();
    }

    private static void sheetsAndParts() {
        sheet();
        lose();
        put();
        cell();
        copy();
        tell();
        ring();
        as();
        trace();
        fault();
        many();
    }

    private static void newObject() {
        due.in("promise 1");
        TideWheels x = new TideWheels();
        for (int what = 0; what < 6; what++) {
            due.is("many", 0, x.many(what));
        }
        for (int k = 0; k < 4; k++) {
            due.is("lose", 0, x.lose(k));
        }
        due.is("ofWork", UNKNOWN, x.ofWork(0, 0));
        due.is("trace", 0, x.trace());
        due.is("fault", 0, x.fault());
        due.is("calm", 0, x.calm(0));
        due.is("back", 0, x.back(0));
    }

    private static void townTakesTexts() {
        due.in("promise 2, texts");
        TideWheels x = new TideWheels();
        due.is("least text", 1, Towns.tell(x, "q,00;w1"));
        due.is("most text", 8, Towns.tell(x, "q" + Towns.repeated(",59", 6) + Towns.repeated(";s9", 8)));
        due.is("many(1)", 6, x.many(1));
        due.is("strength", 59, x.strength(5));
        for (int lane = 0; lane < 3; lane++) {
            String text = "q,07;b3";
            x.sheet(0, lane, 20);
            for (int i = 0; i < text.length(); i++) {
                x.put(0, i + 13, text.charAt(i));
            }
            due.is("in the middle, lane " + lane, 1, x.town(0, lane, 13, 7));
            due.is("fault", 0, x.fault());
            due.is("strength", 7, x.strength(0));
        }
    }

    private static void townFindsFirstFaults() {
        due.in("promise 2, first faults");
        TideWheels x = Towns.of(FOUR);
        String[] texts = {"", "Q,14;w3", "q", "q;w3", "q14;w3", "q,", "q,60;w3", "q,6", "q,1", "q,1a;w3",
            "q,14", "q,14w3", "q,14;", "q,14;x3", "q,14;W3", "q,14;w", "q,14;w0", "q,14;w33", "q,14;w3,14",
            "q,14;w3;", "q,14;w3q", "q,/0;w3", "q,0:;w3", "q,14;w:", "q,99"};
        int[] places = {0, 0, 1, 1, 1, 2, 2, 2, 3, 3,
            4, 4, 5, 5, 5, 6, 6, 7, 7,
            8, 7, 2, 3, 6, 2};
        for (int t = 0; t < texts.length; t++) {
            due.is("town by " + texts[t], -100 - places[t], Towns.tell(x, texts[t]));
        }
        due.is("seventh tide", -119, Towns.tell(x, "q" + Towns.repeated(",14", 7) + ";w3"));
        due.is("six tides alone", -119, Towns.tell(x, "q" + Towns.repeated(",14", 6)));
        due.is("ninth work", -128, Towns.tell(x, "q,14" + Towns.repeated(";w3", 9)));
        due.is("behind eight works", -128, Towns.tell(x, "q,14" + Towns.repeated(";w3", 8) + "q"));
        due.is("the town stays", 4, x.many(0));
        due.is("the tides stay", 3, x.many(1));
        x.sheet(0, Towns.INTS, 7);
        putAll(x, 0, 'q', ',', '1', '4', ';', 'w' + 65536, '3');
        due.is("a code is not cut", -105, x.town(0, Towns.INTS, 0, 7));
        due.is("fault of a first fault", 0, x.fault());
        putAll(x, 0, 'q', ',', '1', '4', ';', 'w', '3');
        for (int n = 0; n < 7; n++) {
            due.is("cells behind are not read", -100 - n, x.town(0, Towns.INTS, 0, n));
        }
        putAll(x, 0, 'q', ',', '1', '4', ';', -1, '3');
        due.is("a code below 0", -105, x.town(0, Towns.INTS, 0, 7));
    }

    private static void townRefuses() {
        due.in("promise 2, refusals and faults");
        TideWheels x = new TideWheels();
        x.sheet(0, Towns.SHORTS, 5);
        due.is("sheet -1", UNKNOWN, x.town(-1, 3, 9, -1));
        due.is("sheet 4", UNKNOWN, x.town(4, 1, 0, 0));
        due.is("lane -1", OUTSIDE, x.town(0, -1, 9, -1));
        due.is("lane 3", OUTSIDE, x.town(1, 3, 9, -1));
        due.is("fault of a refusal", 0, x.fault());
        due.is("cast ahead of size", CAST, x.town(0, 0, 9, -1));
        due.is("fault", 2, x.fault());
        due.is("nothing", NULL, x.town(1, 0, 9, -1));
        due.is("fault", 1, x.fault());
        due.is("size ahead of index", SIZE, x.town(0, 1, 9, -1));
        due.is("least n", SIZE, x.town(0, 1, 0, LEAST));
        due.is("fault", 4, x.fault());
        due.is("behind the end", INDEX, x.town(0, 1, 0, 6));
        due.is("i below 0", INDEX, x.town(0, 1, -1, 1));
        due.is("none taken, i below 0", INDEX, x.town(0, 1, -1, 0));
        due.is("none taken, i beyond", INDEX, x.town(0, 1, 6, 0));
        due.is("none taken at the end", -100, x.town(0, 1, 5, 0));
        due.is("fault", 0, x.fault());
        due.is("sums that wrap", INDEX, x.town(0, 1, 1, MOST));
        due.is("sums that wrap", INDEX, x.town(0, 1, MOST, MOST));
        due.is("sums that wrap", INDEX, x.town(0, 1, LEAST, MOST));
        due.is("no town", 0, x.many(0));
    }

    private static void townMakesAllAnew() {
        due.in("promise 2, all anew");
        TideWheels x = Towns.of(FOUR);
        x.sheet(0, Towns.INTS, 1);
        x.put(0, 0, 77);
        x.tell(0);
        x.law(2);
        x.start(2);
        x.hook(0, false);
        x.storm(3, 4);
        x.reading(1, 2, 3);
        due.is("a faulty text", -104, Towns.tell(x, "q,33w3"));
        due.is("works stay", 4, x.many(0));
        due.is("storms stay", 1, x.many(2));
        due.is("readings stay", 1, x.many(3));
        due.is("law stays", 2, x.many(4));
        due.is("start stays", 2, x.many(5));
        due.is("hooks stay", 0, x.ofWork(0, 3));
        due.is("a good text", 2, Towns.tell(x, "q,33;w9;s1"));
        due.is("works", 2, x.many(0));
        due.is("tides", 1, x.many(1));
        for (int what = 2; what < 6; what++) {
            due.is("many " + what, 0, x.many(what));
        }
        due.is("hooked", 1, x.ofWork(0, 3));
        due.is("no third work", UNKNOWN, x.ofWork(2, 0));
        due.is("goes", 3, x.goes(0));
        due.is("no storm", 33, x.strength(3));
        due.is("trace stays", 1, x.trace());
        due.is("sheet stays", 77, x.cell(0, 0, Towns.INTS));
        due.is("law and order are the new ones'", 2, Towns.tell(x, "q,09;w9;w8"));
        due.is("goes", 2, x.goes(0));
    }

    private static void ofWork() {
        due.in("promise 3");
        TideWheels x = Towns.of("q,14;w9;b9;s9;w1;b1;s1");
        int[][] parts = {{0, 9, 9, 1}, {1, 9, 10, 1}, {2, 9, 20, 1}, {0, 1, 1, 1}, {1, 1, 2, 1}, {2, 1, 4, 1}};
        for (int k = 0; k < parts.length; k++) {
            for (int what = 0; what < 4; what++) {
                due.is("ofWork(" + k + ", " + what + ")", parts[k][what], x.ofWork(k, what));
            }
        }
        x.hook(1, false);
        due.is("not hooked", 0, x.ofWork(1, 3));
        due.is("takes as before", 10, x.ofWork(1, 2));
        due.is("unknown ahead of outside", UNKNOWN, x.ofWork(6, 4));
        due.is("k below 0", UNKNOWN, x.ofWork(-1, 0));
        due.is("k least", UNKNOWN, x.ofWork(LEAST, 0));
        due.is("k most", UNKNOWN, x.ofWork(MOST, 0));
        due.is("what 4", OUTSIDE, x.ofWork(5, 4));
        due.is("what -1", OUTSIDE, x.ofWork(5, -1));
    }

    private static void law() {
        due.in("promise 4");
        TideWheels x = new TideWheels();
        due.is("outside ahead of state", OUTSIDE, x.law(3));
        due.is("no town", STATE, x.law(2));
        due.is("none became", 0, x.many(4));
        x = Towns.of(FOUR);
        due.is("was", 0, x.law(2));
        due.is("was", 2, x.law(1));
        due.is("outside", OUTSIDE, x.law(-1));
        due.is("outside", OUTSIDE, x.law(3));
        due.is("stays", 1, x.many(4));
        due.is("goes by it", 11, x.goes(1));
        due.is("back to 0", 1, x.law(0));
        due.is("goes by it", 12, x.goes(1));
    }

    private static void start() {
        due.in("promise 5");
        TideWheels x = new TideWheels();
        due.is("no tides", OUTSIDE, x.start(0));
        x = Towns.of(FOUR);
        due.is("was", 0, x.start(2));
        due.is("was", 2, x.start(1));
        due.is("outside", OUTSIDE, x.start(3));
        due.is("outside", OUTSIDE, x.start(-1));
        due.is("stays", 1, x.many(5));
        due.is("strength by it", 9, x.strength(0));
        due.is("strength by it", 14, x.strength(2));
        due.is("back to 0", 1, x.start(0));
        due.is("strength by it", 14, x.strength(0));
    }

    private static void hook() {
        due.in("promise 6");
        TideWheels x = Towns.of(FOUR);
        due.is("is hooked", 0, x.hook(3, true));
        due.is("unhooks", 1, x.hook(3, false));
        due.is("was unhooked", 0, x.hook(3, false));
        due.is("does not go", 15 - 8, x.goes(0));
        due.is("hooks", 1, x.hook(3, true));
        due.is("hooked", 1, x.ofWork(3, 3));
        due.is("unknown", UNKNOWN, x.hook(4, true));
        due.is("unknown", UNKNOWN, x.hook(-1, false));
        due.is("unknown", UNKNOWN, new TideWheels().hook(0, true));
    }

    private static void storm() {
        due.in("promise 7");
        TideWheels x = new TideWheels();
        due.is("state ahead of outside", STATE, x.storm(60, 60));
        x = Towns.of(FOUR);
        due.is("hour", OUTSIDE, x.storm(60, 0));
        due.is("hour", OUTSIDE, x.storm(-1, 0));
        due.is("v", OUTSIDE, x.storm(0, 60));
        due.is("v", OUTSIDE, x.storm(0, -60));
        int[] forces = {59, -59, 0, 1, 2, 3};
        for (int s = 0; s < forces.length; s++) {
            due.is("number", s, x.storm(s == 1 ? 59 : 0, forces[s]));
        }
        due.is("outside ahead of full", OUTSIDE, x.storm(60, 0));
        due.is("full", FULL, x.storm(0, 0));
        due.is("how many", 6, x.many(2));
        due.is("all of the hour", 14 + 59 + 6, x.strength(0));
        due.is("below 0 is 0", 0, x.strength(59));
        due.is("another hour", 9, x.strength(1));
    }

    private static void calm() {
        due.in("promise 8");
        TideWheels x = new TideWheels();
        due.is("none", 0, x.calm(0));
        due.is("outside", OUTSIDE, x.calm(1));
        x = Towns.of(FOUR);
        x.storm(0, 1);
        x.storm(0, 2);
        x.storm(0, 4);
        due.is("outside", OUTSIDE, x.calm(4));
        due.is("outside", OUTSIDE, x.calm(-1));
        due.is("outside", OUTSIDE, x.calm(LEAST));
        due.is("none forgotten", 3, x.calm(0));
        due.is("last two", 1, x.calm(2));
        due.is("the first stays", 15, x.strength(0));
        due.is("next number", 1, x.storm(0, -5));
        due.is("strength", 10, x.strength(0));
        due.is("all", 0, x.calm(2));
        due.is("strength", 14, x.strength(0));
    }

    private static void strength() {
        due.in("promise 9");
        TideWheels x = new TideWheels();
        due.is("outside ahead of state", OUTSIDE, x.strength(60));
        due.is("no town", STATE, x.strength(59));
        x = Towns.of(FOUR);
        int[] tides = {14, 9, 5};
        for (int hour = 0; hour < 60; hour++) {
            due.is("hour " + hour, tides[hour % 3], x.strength(hour));
        }
        due.is("outside", OUTSIDE, x.strength(-1));
        due.is("outside", OUTSIDE, x.strength(60));
        x.storm(2, -9);
        x.storm(2, 6);
        due.is("below 0 only on the way", 2, x.strength(2));
    }

    private static void goes() {
        due.in("promise 10");
        TideWheels x = new TideWheels();
        due.is("outside ahead of state", OUTSIDE, x.goes(60));
        due.is("no town", STATE, x.goes(0));
        x = Towns.of(FOUR);
        // Takes 3, 5, 6, 1: at 14, at 9, at 5.
        int[][] sets = {{14, 12, 8}, {11, 11, 9}, {7, 4, 0}};
        for (int law = 0; law < 3; law++) {
            x.law(law);
            for (int hour = 0; hour < 3; hour++) {
                due.is("law " + law + ", hour " + hour, sets[law][hour], x.goes(hour));
            }
        }
        due.is("outside", OUTSIDE, x.goes(-1));
        due.is("outside", OUTSIDE, x.goes(60));
        due.is("just as much strength", 15, Towns.of("q,15;w3;b4;s2;w1").goes(0));
        TideWheels same = Towns.of("q,08;w4;b3;s1;w4");
        same.law(1);
        due.is("most, of several the least number", 12, same.goes(0));
        same.law(2);
        due.is("least, of several the least number", 12, same.goes(0));
        same.hook(2, false);
        due.is("only those that are hooked", 10, same.goes(0));
    }

    private static void late() {
        due.in("promise 11");
        TideWheels x = Towns.of(FOUR);
        due.is("as hour 0 ends", 1, x.late(0, 0));
        due.is("most late", 60, x.late(0, 59));
        due.is("two of three", 40, x.late(1, 59));
        due.is("one of three", 20, x.late(2, 59));
        due.is("one of three, early", 1, x.late(2, 4));
        due.is("one of three, then", 2, x.late(2, 5));
        due.is("never", 0, x.late(3, 59));
        x.hook(0, false);
        due.is("not hooked", 0, x.late(0, 59));
        due.is("unknown ahead of outside", UNKNOWN, x.late(4, 60));
        due.is("outside", OUTSIDE, x.late(3, 60));
        due.is("outside", OUTSIDE, x.late(3, -1));
        due.is("no town", UNKNOWN, new TideWheels().late(0, 0));
    }

    private static void all() {
        due.in("promise 12");
        TideWheels x = new TideWheels();
        due.is("outside ahead of state", OUTSIDE, x.all(-1));
        due.is("no town", STATE, x.all(0));
        x = Towns.of("q,09,05,15;w3;b4;s2;w1");
        due.is("third tide", 2, x.all(0));
        due.is("from the hour itself", 2, x.all(2));
        due.is("the next round", 5, x.all(3));
        due.is("last hour", 59, x.all(59));
        x.storm(59, -1);
        due.is("none", NONE, x.all(57));
        x.hook(2, false);
        due.is("without the third", 57, x.all(57));
        due.is("without the third", 59, x.all(58));
        due.is("outside", OUTSIDE, x.all(60));
        due.is("there is no hour 60", NONE, Towns.of("q,15,09;w3;b4;s2;w1").all(59));
        x = Towns.of("q,00;w1");
        due.is("none", NONE, x.all(0));
        x.hook(0, false);
        due.is("none is hooked", 7, x.all(7));
    }

    private static void alike() {
        due.in("promise 13");
        TideWheels x = new TideWheels();
        due.is("outside ahead of state", OUTSIDE, x.alike(60));
        due.is("no town", STATE, x.alike(59));
        x = Towns.of("q,05,00;w5;w5");
        due.is("never, by the first", NONE, x.alike(0));
        x.storm(2, 5);
        x.storm(0, -5);
        x.storm(2, -5);
        due.is("alike as hour 0 ends", 0, x.alike(0));
        due.is("and hour 1", 1, x.alike(1));
        due.is("not afterwards", NONE, x.alike(2));
        x.hook(1, false);
        due.is("one is like itself", 2, x.alike(2));
        x.hook(0, false);
        due.is("none is hooked", 59, x.alike(59));
        due.is("outside", OUTSIDE, x.alike(-1));
        // Unhooked works are 0 late: not asked.
        x = Towns.of("q,00;w5;w5;w5");
        x.hook(1, false);
        due.is("of those that are hooked", 4, x.alike(4));
        // Law 1 by hours: 1 late, and then the other one by a storm that leaves just the first.
        x = Towns.of("q,05;w2;b4");
        x.law(1);
        x.storm(1, -4);
        due.is("never", NONE, x.alike(0));
        due.is("late", 2, x.late(1, 1));
        due.is("late", 1, x.late(0, 1));
    }

    private static void fewest() {
        due.in("promise 14");
        TideWheels x = Towns.of(FOUR);
        due.is("goes as it is", 0, x.fewest(1, 0, 0));
        due.is("one", 2, x.fewest(0, 0, 0));
        due.is("another one for two hours", 4, x.fewest(0, 0, 1));
        due.is("two", 6, x.fewest(0, 0, 59));
        due.is("not by all", NONE, x.fewest(2, 0, 59));
        due.is("unknown ahead of outside", UNKNOWN, x.fewest(4, 60, 0));
        due.is("from", OUTSIDE, x.fewest(0, -1, 0));
        due.is("from", OUTSIDE, x.fewest(0, 60, 60));
        due.is("to", OUTSIDE, x.fewest(0, 0, 60));
        due.is("to below from", OUTSIDE, x.fewest(0, 1, 0));
        due.is("changes nothing", 14, x.goes(0));
        x.hook(2, false);
        due.is("of those that are hooked", 0, x.fewest(0, 0, 1));
        due.is("it is not hooked", NONE, x.fewest(2, 0, 0));
        x = Towns.of("q,05" + Towns.repeated(";w1", 8));
        due.is("of several the least", 14, x.fewest(0, 0, 59));
        x.law(2);
        due.is("law 2", 14, x.fewest(0, 0, 59));
        due.is("law 2, goes as it is", 0, x.fewest(3, 0, 59));
        due.is("all others", 2, Towns.of("q,01;w1;w1").fewest(0, 0, 59));
        // Under law 0 one of a greater number, that takes much, is unhooked rather than two.
        x = Towns.of("q,09;w5;w3;w2;w9");
        due.is("one that takes much", 8, x.fewest(1, 0, 0));
    }

    private static void help() {
        due.in("promise 15");
        TideWheels x = new TideWheels();
        due.is("outside ahead of state", OUTSIDE, x.help(60, 0));
        due.is("no town", STATE, x.help(59, 1));
        x = Towns.of(FOUR);
        due.is("none helps", NONE, x.help(0, 0));
        due.is("as now", 120, x.help(0, 1));
        due.is("least hour", 0, x.help(3, 0));
        due.is("one less", 119, x.help(3, 1));
        due.is("another hour is better", 2, x.help(10, 0));
        due.is("three less", 117, x.help(10, 1));
        due.is("less strength", NONE, x.help(-59, 0));
        due.is("v", OUTSIDE, x.help(-60, 0));
        due.is("v", OUTSIDE, x.help(60, 0));
        due.is("what", OUTSIDE, x.help(0, 2));
        due.is("what", OUTSIDE, x.help(0, -1));
        for (int s = 0; s < 6; s++) {
            x.storm(2, -1);
        }
        due.is("also where there are six", 5, x.help(10, 0));
        due.is("also where there are six", 121 - 3, x.help(10, 1));
        due.is("no storm was made", 6, x.many(2));
        x.calm(6);
        x.storm(0, -59);
        due.is("from below 0 it is too little", 1, x.help(3, 0));
        due.is("just enough in all", 0, x.help(59, 0));
    }

    private static void planAnswers() {
        due.in("promise 16, answers");
        TideWheels x = Towns.of(FOUR);
        due.is("no rows", 120, Towns.plan(x));
        due.is("one row", 41, Towns.plan(x, 1, 2));
        due.is("two rows", 21, Towns.plan(x, 1, 2, 1, 0));
        due.is("to and fro in an hour", 120, Towns.plan(x, 7, 2, 7, 2));
        due.is("as hour 0 begins", 120 - 1 - 39 - 40, Towns.plan(x, 0, 2));
        due.is("as hour 59 begins", 120 - 3 + 2, Towns.plan(x, 59, 0));
        due.is("changes nothing", 1, x.ofWork(0, 3));
        x.hook(2, false);
        due.is("without the third", 40, Towns.plan(x));
        due.is("hooks what is not", 120, Towns.plan(x, 0, 2));
        due.is("hooks what is not, at last", 41, Towns.plan(x, 59, 2));
        due.is("and back", 40, Towns.plan(x, 59, 2, 59, 2));
        due.is("first wrong", -101, Towns.plan(x, 1, 2, 0, 2));
        due.is("first wrong of more", -102, Towns.plan(x, 1, 2, 1, 2, 0, 2, 5, 1, 4, 1));
        due.is("fault", 0, x.fault());
        int[] rows = new int[60];
        due.is("thirty rows", Towns.plan(x), Towns.plan(x, rows));
    }

    private static void planRefuses() {
        due.in("promise 16, refusals and faults");
        TideWheels x = new TideWheels();
        due.is("sheet", UNKNOWN, x.plan(4, 3, 0, 31));
        due.is("sheet", UNKNOWN, x.plan(-1, 0, 0, 0));
        due.is("lane ahead of state", OUTSIDE, x.plan(0, 3, 0, 0));
        due.is("n ahead of state", OUTSIDE, x.plan(0, 0, 0, 31));
        due.is("n below 0", OUTSIDE, x.plan(0, 0, 0, -1));
        due.is("state ahead of null", STATE, x.plan(0, 0, -1, 1));
        due.is("fault", 0, x.fault());
        x = Towns.of(FOUR);
        due.is("null", NULL, x.plan(0, 0, -1, 1));
        due.is("fault", 1, x.fault());
        x.sheet(0, Towns.INTS, 6);
        due.is("cast ahead of index", CAST, x.plan(0, 0, -1, 1));
        due.is("index", INDEX, x.plan(0, 2, -1, 0));
        due.is("index", INDEX, x.plan(0, 2, 5, 1));
        due.is("index", INDEX, x.plan(0, 2, 7, 0));
        due.is("index", INDEX, x.plan(0, 2, MOST, 30));
        due.is("fault", 3, x.fault());
        due.is("none at the end", 120, x.plan(0, 2, 6, 0));
        due.is("fault", 0, x.fault());
        putAll(x, 0, 5, 0, 60, 4, 0, 9);
        due.is("hour ahead of work, row by row", OUTSIDE, x.plan(0, 2, 0, 3));
        putAll(x, 0, 5, 0, 0, 4, 60, 9);
        due.is("the first row that is not as told", UNKNOWN, x.plan(0, 2, 0, 3));
        putAll(x, 0, 5, 0, 0, 0, -1, 0);
        due.is("rows ahead of first wrong", OUTSIDE, x.plan(0, 2, 0, 3));
        due.is("first wrong", -101, x.plan(0, 2, 0, 2));
        putAll(x, 0, 5, -1, 5, LEAST, 5, MOST);
        for (int i = 0; i < 6; i += 2) {
            due.is("no such work", UNKNOWN, x.plan(0, 2, i, 1));
        }
        due.is("fault", 0, x.fault());
    }

    private static void reading() {
        due.in("promise 17");
        TideWheels x = new TideWheels();
        due.is("no town", UNKNOWN, x.reading(0, 60, 61));
        x = Towns.of(FOUR);
        due.is("unknown ahead of outside", UNKNOWN, x.reading(4, 60, 61));
        due.is("hour", OUTSIDE, x.reading(0, 60, 0));
        due.is("hour", OUTSIDE, x.reading(0, -1, 0));
        due.is("late", OUTSIDE, x.reading(0, 0, 61));
        due.is("late", OUTSIDE, x.reading(0, 0, -1));
        for (int r = 0; r < 8; r++) {
            due.is("number", r, x.reading(0, 59, 60));
        }
        due.is("outside ahead of full", OUTSIDE, x.reading(0, 0, 61));
        due.is("full", FULL, x.reading(0, 0, 0));
        due.is("how many", 8, x.many(3));
        due.is("all are so", 7, x.starts());
    }

    private static void back() {
        due.in("promise 18");
        TideWheels x = new TideWheels();
        due.is("none", 0, x.back(0));
        due.is("outside", OUTSIDE, x.back(1));
        x = Towns.of(FOUR);
        x.reading(0, 0, 1);
        x.reading(0, 0, 0);
        x.reading(3, 59, 60);
        due.is("outside", OUTSIDE, x.back(4));
        due.is("outside", OUTSIDE, x.back(-1));
        due.is("not so", 0, x.starts());
        due.is("last two", 1, x.back(2));
        due.is("so", 7, x.starts());
        due.is("next number", 1, x.reading(0, 0, 1));
        due.is("none", 2, x.back(0));
        due.is("all", 0, x.back(2));
    }

    private static void starts() {
        due.in("promise 19");
        due.is("no town", STATE, new TideWheels().starts());
        TideWheels x = Towns.of(FOUR);
        due.is("no readings", 7, x.starts());
        x.reading(1, 0, 1);
        due.is("not the first tide", 6, x.starts());
        x.reading(2, 0, 0);
        due.is("the second alone", 2, x.starts());
        due.is("start is not it", 0, x.start(1));
        due.is("the same", 2, x.starts());
        x.storm(0, -9);
        due.is("storms are as they are", 0, x.starts());
        x.back(1);
        due.is("all but what the storm leaves", 7, x.starts());
    }

    private static void laws() {
        due.in("promise 20");
        due.is("no town", STATE, new TideWheels().laws());
        TideWheels x = Towns.of(FOUR);
        due.is("no readings", 7, x.laws());
        x.reading(0, 1, 0);
        due.is("law 1", 2, x.laws());
        x.back(1);
        x.reading(3, 0, 1);
        due.is("law 2", 4, x.laws());
        x.back(1);
        x.reading(3, 0, 0);
        due.is("laws 0 and 1", 3, x.laws());
        due.is("law stays", 0, x.law(2));
        due.is("the same", 3, x.laws());
        due.is("goes by law 2", 4, x.goes(1));
    }

    private static void hung() {
        due.in("promise 21");
        due.is("no town", STATE, new TideWheels().hung());
        // 7 of 7 is taken: whoever takes more stops the first one.
        TideWheels x = Towns.of("q,07;w2;b2;w2");
        due.is("no readings", 7, x.hung());
        x.reading(0, 0, 1);
        due.is("any one", 7, x.hung());
        x.hook(2, false);
        due.is("strength enough", 0, x.hung());
        x.hook(2, true);
        x.law(1);
        due.is("law 1: the first, as it takes the most then", 1, x.hung());
        x.back(1);
        x.reading(1, 0, 1);
        due.is("law 1: the second takes the most, but for the first", 6, x.hung());
        x.law(2);
        due.is("law 2: none", 0, x.hung());
        x.back(1);
        x.reading(0, 0, 1);
        due.is("law 2: the first, till it takes more than the third", 6, x.hung());
        due.is("takes as before", 2, x.ofWork(0, 2));
        // A saint takes just 1 more, too: 5 and 2 of 8 leaves 1.
        x = Towns.of("q,08;w2;s2");
        x.reading(0, 0, 1);
        due.is("a saint takes 1 more", 3, x.hung());
        x.storm(0, 1);
        due.is("and not 2", 0, x.hung());
        x.hook(1, false);
        x.back(1);
        due.is("those that are not hooked, too", 3, x.hung());
    }

    private static void freed() {
        due.in("promise 22");
        due.is("no town", STATE, new TideWheels().freed());
        TideWheels x = Towns.of(FOUR);
        due.is("no readings", 15, x.freed());
        x.reading(0, 0, 0);
        due.is("any one of all", 15, x.freed());
        x.reading(1, 1, 0);
        due.is("without the second or third", 6, x.freed());
        x.hook(2, false);
        due.is("as it is, or with another one less", 15, x.freed());
        x.reading(0, 59, 20);
        due.is("as it is, or without the fourth", 12, x.freed());
        due.is("hooked as before", 1, x.ofWork(1, 3));
    }

    private static void odds() {
        due.in("promise 23");
        TideWheels x = new TideWheels();
        due.is("no town", LOST, x.odds(0, 0, 0));
        x = Towns.of(FOUR);
        due.is("upper", 7, x.odds(0, 0, 0));
        due.is("lower", 16, x.odds(0, 0, 1));
        due.is("in least terms", 1, x.odds(0, 2, 0));
        due.is("in least terms", 8, x.odds(0, 2, 1));
        due.is("none", 0, x.odds(2, 2, 0));
        due.is("none", 1, x.odds(2, 2, 1));
        x.hook(0, false);
        x.hook(1, false);
        due.is("in place of what it is", 7, x.odds(0, 0, 0));
        due.is("unknown", LOST, x.odds(4, 0, 0));
        due.is("unknown", LOST, x.odds(-1, 0, 0));
        due.is("hour", LOST, x.odds(0, 60, 0));
        due.is("hour", LOST, x.odds(0, -1, 0));
        due.is("which", LOST, x.odds(0, 0, 2));
        due.is("which", LOST, x.odds(0, 0, -1));
        x = Towns.of("q,59;w1;w1;w1;w1;w1;w1;w1;w1");
        due.is("half of all", 1, x.odds(5, 0, 0));
        due.is("half of all", 2, x.odds(5, 0, 1));
        x.storm(0, -54);
        due.is("eight works", 99, x.odds(0, 0, 0));
        due.is("eight works", 256, x.odds(0, 0, 1));
    }

    private static void sheet() {
        due.in("promise 24");
        TideWheels x = new TideWheels();
        due.is("unknown ahead of outside", UNKNOWN, x.sheet(4, 3, 61));
        due.is("unknown", UNKNOWN, x.sheet(-1, 0, 0));
        due.is("lane ahead of size", OUTSIDE, x.sheet(0, 3, -1));
        due.is("lane", OUTSIDE, x.sheet(0, -1, 0));
        due.is("n above 60", OUTSIDE, x.sheet(0, 0, 61));
        due.is("fault", 0, x.fault());
        due.is("size", SIZE, x.sheet(0, 0, -1));
        due.is("fault", 4, x.fault());
        due.is("size", SIZE, x.sheet(0, 0, LEAST));
        due.is("nothing yet", 0, x.lose(0));
        due.is("none", 1, x.sheet(3, 0, 0));
        due.is("fault", 0, x.fault());
        due.is("no cell", LOST, x.cell(3, 0, 0));
        due.is("sixty", 1, x.sheet(3, 2, 60));
        due.is("0 at first", 0, x.cell(3, 59, 2));
        x.put(3, 59, 5);
        due.is("a new row", 1, x.sheet(3, 2, 60));
        due.is("0 at first", 0, x.cell(3, 59, 2));
        x.put(3, 59, 5);
        due.is("refused", OUTSIDE, x.sheet(3, 2, 61));
        due.is("stays", 5, x.cell(3, 59, 2));
    }

    private static void lose() {
        due.in("promise 25");
        TideWheels x = new TideWheels();
        for (int k = 0; k < 4; k++) {
            due.is("had nothing", 0, x.lose(k));
            x.sheet(k, 0, 0);
            due.is("had a row", 1, x.lose(k));
            due.is("has nothing", NULL, x.put(k, 0, 0));
        }
        due.is("unknown", UNKNOWN, x.lose(4));
        due.is("unknown", UNKNOWN, x.lose(-1));
        due.is("names no faults", 1, x.fault());
    }

    private static void put() {
        due.in("promise 26");
        TideWheels x = new TideWheels();
        due.is("unknown", UNKNOWN, x.put(4, -1, 0));
        due.is("unknown", UNKNOWN, x.put(-1, -1, 0));
        due.is("null ahead of index", NULL, x.put(0, -1, 0));
        int[] values = {127, 128, 255, 256, -129, 32767, 32768, 65535, -32769, MOST, LEAST};
        int[] bytes = {127, -128, -1, 0, 127, -1, 0, -1, -1, -1, 0};
        int[] shorts = {127, 128, 255, 256, -129, 32767, -32768, -1, 32767, -1, 0};
        int[][] cut = {bytes, shorts, values};
        for (int lane = 0; lane < 3; lane++) {
            x.sheet(lane, lane, 2);
            for (int v = 0; v < values.length; v++) {
                due.is("put", 1, x.put(lane, 1, values[v]));
                due.is("lane " + lane + ", " + values[v], cut[lane][v], x.cell(lane, 1, lane));
            }
            due.is("the other cell", 0, x.cell(lane, 0, lane));
        }
        due.is("index", INDEX, x.put(0, 2, 0));
        due.is("fault", 3, x.fault());
        due.is("index", INDEX, x.put(0, -1, 0));
        due.is("index", INDEX, x.put(0, MOST, 0));
        due.is("index", INDEX, x.put(0, LEAST, 0));
        x.sheet(0, 0, 0);
        due.is("index", INDEX, x.put(0, 0, 0));
    }

    private static void cell() {
        due.in("promise 27");
        TideWheels x = new TideWheels();
        due.is("unknown", LOST, x.cell(4, 0, 0));
        due.is("lane", LOST, x.cell(0, 0, 3));
        due.is("lane", LOST, x.cell(0, 0, -1));
        due.is("fault", 0, x.fault());
        due.is("nothing", LOST, x.cell(0, 0, 0));
        due.is("fault", 1, x.fault());
        x.sheet(0, Towns.SHORTS, 3);
        due.is("cast ahead of index", LOST, x.cell(0, 3, 0));
        due.is("fault", 2, x.fault());
        due.is("index", LOST, x.cell(0, 3, 1));
        due.is("fault", 3, x.fault());
        due.is("unknown", LOST, x.cell(-1, 0, 0));
        due.is("fault", 0, x.fault());
        due.is("index", LOST, x.cell(0, -1, 1));
        due.is("fault", 3, x.fault());
        x.put(0, 2, -7);
        due.is("cell", -7, x.cell(0, 2, 1));
        due.is("fault", 0, x.fault());
    }

    private static void copy() {
        due.in("promise 28");
        TideWheels x = new TideWheels();
        due.is("unknown", UNKNOWN, x.copy(4, 0, 0, 0, 0));
        due.is("unknown", UNKNOWN, x.copy(0, 0, 4, 0, 0));
        due.is("unknown", UNKNOWN, x.copy(-1, 0, -1, 0, 0));
        due.is("null", NULL, x.copy(0, 0, 1, 0, 0));
        x.sheet(0, Towns.INTS, 5);
        due.is("the other is null", NULL, x.copy(0, -1, 1, 0, 0));
        due.is("the first is null", NULL, x.copy(1, -1, 0, 0, 0));
        x.sheet(1, Towns.SHORTS, 5);
        due.is("cast ahead of index", CAST, x.copy(0, -1, 1, 0, 0));
        x.sheet(1, Towns.INTS, 3);
        putAll(x, 0, 1, 2, 3, 4, 5);
        int[][] wrong = {{-1, 0, 1}, {0, -1, 1}, {0, 0, -1}, {5, 0, 1}, {0, 3, 1}, {0, 0, 4}, {3, 0, 3},
            {6, 0, 0}, {0, 4, 0}, {MOST, 0, MOST}, {0, MOST, MOST}, {1, 1, MOST}, {LEAST, LEAST, LEAST}};
        for (int[] ijn : wrong) {
            due.is("index", INDEX, x.copy(0, ijn[0], 1, ijn[1], ijn[2]));
        }
        due.is("fault", 3, x.fault());
        due.is("none", 0, x.copy(0, 5, 1, 3, 0));
        due.is("fault", 0, x.fault());
        due.is("two", 2, x.copy(0, 3, 1, 1, 2));
        cellsAre(x, 1, 0, 4, 5);
        due.is("the same, behind", 4, x.copy(0, 0, 0, 1, 4));
        cellsAre(x, 0, 1, 1, 2, 3, 4);
        due.is("the same, ahead", 3, x.copy(0, 2, 0, 0, 3));
        cellsAre(x, 0, 2, 3, 4, 3, 4);
    }

    private static void tell() {
        due.in("promise 29");
        TideWheels x = Towns.of("q,14;w3;b4;s2");
        due.is("work", 3, x.tell(0));
        due.is("trace", 1, x.trace());
        due.is("barnacled", 104, x.tell(1));
        due.is("trace", (1 * 31 + 2) * 31 + 1, x.trace());
        due.is("unknown", UNKNOWN, x.tell(3));
        due.is("unknown", UNKNOWN, x.tell(-1));
        due.is("trace", 1024, x.trace());
        x = Towns.of("q,14;w3;b4;s9");
        due.is("saint", 118, x.tell(2));
        due.is("trace", ((3 * 31 + 2) * 31 + 1) * 31 + 1, x.trace());
        x.hook(2, false);
        due.is("hooked or not", 118, x.tell(2));
    }

    private static void ring() {
        due.in("promise 30");
        TideWheels x = Towns.of("q,14;w3;b4;s2;w9");
        due.is("work", 0, x.ring(0));
        due.is("trace", 4, x.trace());
        due.is("barnacled", 1, x.ring(1));
        due.is("trace", 4 * 31 + 4, x.trace());
        due.is("saint", 30, x.ring(2));
        due.is("trace", 128 * 31 + 5, x.trace());
        due.is("work", 3, x.ring(3));
        due.is("unknown", UNKNOWN, x.ring(4));
        due.is("unknown", UNKNOWN, x.ring(-1));
    }

    private static void as() {
        due.in("promise 31");
        TideWheels x = Towns.of("q,14;w3;b4;s2");
        for (int k = 0; k < 3; k++) {
            for (int kind = 0; kind < 3; kind++) {
                due.is("as(" + k + ", " + kind + ")", kind <= k ? 1 : CAST, x.as(k, kind));
                due.is("fault", kind <= k ? 0 : 2, x.fault());
            }
        }
        due.is("cast", CAST, x.as(0, 1));
        due.is("unknown ahead of outside", UNKNOWN, x.as(3, 3));
        due.is("fault", 0, x.fault());
        due.is("outside", OUTSIDE, x.as(0, 3));
        due.is("outside", OUTSIDE, x.as(0, -1));
    }

    private static void trace() {
        due.in("promise 32");
        TideWheels x = Towns.of("q,14;w3;b4;s2");
        int sum = 0;
        for (int t = 0; t < 20; t++) {
            x.tell(2);
            sum = (((sum * 31 + 3) * 31 + 2) * 31 + 1) * 31 + 1;
            due.is("wraps", sum, x.trace());
        }
    }

    private static void fault() {
        due.in("promise 33");
        TideWheels x = Towns.of(FOUR);
        x.put(0, 0, 0);
        due.is("null", 1, x.fault());
        due.is("again", 1, x.fault());
        callsThatNameNoFaults(x);
        due.is("calls that name none", 1, x.fault());
        Runnable[] refused = {() -> x.town(4, 0, 0, 0), () -> x.plan(4, 0, 0, 0), () -> x.sheet(4, 0, 0),
            () -> x.put(4, 0, 0), () -> x.cell(4, 0, 0), () -> x.copy(4, 0, 0, 0, 0), () -> x.as(4, 0)};
        for (Runnable call : refused) {
            x.put(0, 0, 0);
            due.is("a fault", 1, x.fault());
            call.run();
            due.is("a refusal", 0, x.fault());
        }
    }

    private static void callsThatNameNoFaults(TideWheels x) {
        x.ofWork(9, 0);
        x.law(9);
        x.start(9);
        x.hook(9, true);
        x.storm(99, 0);
        x.calm(9);
        x.strength(99);
        x.goes(99);
        x.late(9, 0);
        x.all(99);
        x.alike(99);
        x.fewest(9, 0, 0);
        x.help(99, 0);
        x.reading(9, 0, 0);
        x.back(9);
        x.starts();
        x.laws();
        x.hung();
        x.freed();
        x.odds(9, 0, 0);
        x.lose(0);
        x.tell(9);
        x.ring(9);
        x.trace();
        x.many(9);
    }

    private static void many() {
        due.in("promise 34");
        TideWheels x = Towns.of(FOUR);
        x.storm(0, 0);
        x.reading(0, 0, 0);
        x.reading(0, 0, 0);
        x.law(2);
        x.start(1);
        int[] counts = {4, 3, 1, 2, 2, 1};
        for (int what = 0; what < counts.length; what++) {
            due.is("many " + what, counts[what], x.many(what));
        }
        due.is("outside", OUTSIDE, x.many(6));
        due.is("outside", OUTSIDE, x.many(-1));
        due.is("outside", OUTSIDE, new TideWheels().many(6));
    }

    private static void putAll(TideWheels x, int sheet, int... values) {
        for (int i = 0; i < values.length; i++) {
            x.put(sheet, i, values[i]);
        }
    }

    private static void cellsAre(TideWheels x, int sheet, int... values) {
        for (int i = 0; i < values.length; i++) {
            due.is("cell " + i, values[i], x.cell(sheet, i, Towns.INTS));
        }
    }
}
