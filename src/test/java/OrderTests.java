import java.util.function.IntToLongFunction;

/** Of several refusals and faults of a call the first in the order of its line: by all ways to have several wrong. */
public final class OrderTests implements Answers {
    private static final String THREE = "q,14;w3;b4;s2";

    private static final Due due = new Due("OrderTests");

    private OrderTests() {
    }

    public static void main(String[] args) {
        towns();
        plansOfATown();
        plansWithoutATown();
        storms();
        worksAndHours();
        hooks();
        sheets();
        cells();
        copies();
        due.end();
    }

    private static boolean has(int wrongs, int number) {
        return (wrongs >> number) % 2 == 1;
    }

    /** The answers stand in the line's order; a call is made for each set of what is wrong, and asked for the first. */
    private static void first(String name, IntToLongFunction call, long... answers) {
        due.in(name);
        for (int wrongs = 1; wrongs < 1 << answers.length; wrongs++) {
            int first = Integer.numberOfTrailingZeros(wrongs);
            due.is("wrong are " + Integer.toBinaryString(wrongs), answers[first], call.applyAsLong(wrongs));
        }
    }

    /** A town of three works; sheet 0 has bytes, sheet 1 shorts, 5 cells each, sheets 2 and 3 nothing. */
    private static TideWheels made(boolean hasTown) {
        TideWheels x = hasTown ? Towns.of(THREE) : new TideWheels();
        x.sheet(0, 0, 5);
        x.sheet(1, 1, 5);
        return x;
    }

    private static void towns() {
        first("town: UNKNOWN; OUTSIDE: lane; CAST; SIZE; INDEX; -100 less it", w -> made(true).town(
            has(w, 0) ? 4 : 0, has(w, 1) ? 3 : has(w, 2) ? 1 : 0, has(w, 4) ? -1 : 0, has(w, 3) ? -1 : 1),
            UNKNOWN, OUTSIDE, CAST, SIZE, INDEX);
        first("town: UNKNOWN; OUTSIDE: lane; NULL; SIZE; INDEX", w -> made(true).town(
            has(w, 0) ? 4 : has(w, 2) ? 2 : 0, has(w, 1) ? 3 : 0, has(w, 4) ? 6 : 0, has(w, 3) ? -1 : 1),
            UNKNOWN, OUTSIDE, NULL, SIZE, INDEX);
    }

    private static void plansOfATown() {
        first("plan: UNKNOWN; OUTSIDE: lane; OUTSIDE: n; CAST; INDEX", w -> made(true).plan(
            has(w, 0) ? 4 : 0, has(w, 1) ? 3 : has(w, 3) ? 1 : 0, has(w, 4) ? -1 : 0, has(w, 2) ? 31 : 1),
            UNKNOWN, OUTSIDE, OUTSIDE, CAST, INDEX);
        first("plan: UNKNOWN; OUTSIDE: n; NULL; INDEX", w -> made(true).plan(
            has(w, 0) ? -1 : has(w, 2) ? 2 : 0, 0, has(w, 3) ? 4 : 0, has(w, 1) ? -1 : 1),
            UNKNOWN, OUTSIDE, NULL, INDEX);
        first("plan: INDEX; rows: OUTSIDE; UNKNOWN; -100 less the FIRST WRONG", w -> {
            TideWheels x = made(true);
            Towns.putAll(x, 0, has(w, 1) ? 60 : 5, has(w, 2) ? 3 : 0, has(w, 3) ? 4 : 5, 0);
            return x.plan(0, 0, 0, has(w, 0) ? 3 : 2);
        }, INDEX, OUTSIDE, UNKNOWN, -101);
        first("plan: rows one behind another", w -> {
            TideWheels x = made(true);
            Towns.putAll(x, 0, has(w, 0) ? -1 : 5, has(w, 1) ? -1 : 0, has(w, 2) ? 60 : has(w, 4) ? 4 : 5,
                has(w, 3) ? 3 : 0);
            return x.plan(0, 0, 0, 2);
        }, OUTSIDE, UNKNOWN, OUTSIDE, UNKNOWN, -101);
    }

    private static void plansWithoutATown() {
        first("plan: UNKNOWN; OUTSIDE: lane; OUTSIDE: n; STATE; CAST; INDEX", w -> made(!has(w, 3)).plan(
            has(w, 0) ? 4 : 0, has(w, 1) ? 3 : has(w, 4) ? 1 : 0, has(w, 5) ? -1 : 0, has(w, 2) ? 31 : 1),
            UNKNOWN, OUTSIDE, OUTSIDE, STATE, CAST, INDEX);
        first("plan: STATE; NULL; INDEX", w -> made(!has(w, 0)).plan(
            has(w, 1) ? 2 : 0, 0, has(w, 2) ? -1 : 0, 1), STATE, NULL, INDEX);
    }

    private static TideWheels full(boolean isFull) {
        TideWheels x = made(true);
        for (int r = 0; r < 8; r++) {
            if (isFull) {
                x.storm(0, 0);
                x.reading(0, 0, 0);
            }
        }
        return x;
    }

    private static void storms() {
        first("storm: STATE; OUTSIDE: hour, v", w -> made(!has(w, 0)).storm(has(w, 1) ? 60 : 0, has(w, 2) ? 60 : 0),
            STATE, OUTSIDE, OUTSIDE);
        first("storm: OUTSIDE: hour, v; FULL", w -> full(has(w, 2)).storm(has(w, 0) ? -1 : 0, has(w, 1) ? -60 : 0),
            OUTSIDE, OUTSIDE, FULL);
        first("reading: UNKNOWN; OUTSIDE: hour, late; FULL", w -> full(has(w, 3)).reading(
            has(w, 0) ? 3 : 0, has(w, 1) ? 60 : 0, has(w, 2) ? 61 : 0), UNKNOWN, OUTSIDE, OUTSIDE, FULL);
    }

    private static void worksAndHours() {
        first("ofWork: UNKNOWN; OUTSIDE", w -> made(true).ofWork(has(w, 0) ? 3 : 0, has(w, 1) ? 4 : 0),
            UNKNOWN, OUTSIDE);
        first("late: UNKNOWN; OUTSIDE", w -> made(true).late(has(w, 0) ? 3 : 0, has(w, 1) ? 60 : 0),
            UNKNOWN, OUTSIDE);
        first("as: UNKNOWN; OUTSIDE", w -> made(true).as(has(w, 0) ? 3 : 0, has(w, 1) ? 3 : 0), UNKNOWN, OUTSIDE);
        first("law: OUTSIDE; STATE", w -> made(!has(w, 1)).law(has(w, 0) ? 3 : 0), OUTSIDE, STATE);
        first("strength: OUTSIDE; STATE", w -> made(!has(w, 1)).strength(has(w, 0) ? 60 : 0), OUTSIDE, STATE);
        first("goes: OUTSIDE; STATE", w -> made(!has(w, 1)).goes(has(w, 0) ? 60 : 0), OUTSIDE, STATE);
        first("all: OUTSIDE; STATE", w -> made(!has(w, 1)).all(has(w, 0) ? 60 : 0), OUTSIDE, STATE);
        first("alike: OUTSIDE; STATE", w -> made(!has(w, 1)).alike(has(w, 0) ? 60 : 0), OUTSIDE, STATE);
    }

    private static void hooks() {
        first("fewest: UNKNOWN; OUTSIDE: from, to", w -> made(true).fewest(
            has(w, 0) ? 3 : 0, has(w, 1) ? -1 : 0, has(w, 2) ? 60 : 0), UNKNOWN, OUTSIDE, OUTSIDE);
        first("help: OUTSIDE: v, what; STATE", w -> made(!has(w, 2)).help(has(w, 0) ? 60 : 0, has(w, 1) ? 2 : 0),
            OUTSIDE, OUTSIDE, STATE);
        first("odds: LOST", w -> made(true).odds(has(w, 0) ? 3 : 0, has(w, 1) ? 60 : 0, has(w, 2) ? 2 : 0),
            LOST, LOST, LOST);
    }

    private static void sheets() {
        first("sheet: UNKNOWN; OUTSIDE: lane; OUTSIDE: n above 60", w -> made(true).sheet(
            has(w, 0) ? 4 : 0, has(w, 1) ? 3 : 0, has(w, 2) ? 61 : 1), UNKNOWN, OUTSIDE, OUTSIDE);
        first("sheet: UNKNOWN; OUTSIDE: lane; SIZE", w -> made(true).sheet(
            has(w, 0) ? 4 : 0, has(w, 1) ? 3 : 0, has(w, 2) ? -1 : 1), UNKNOWN, OUTSIDE, SIZE);
        first("put: UNKNOWN; NULL; INDEX", w -> made(true).put(
            has(w, 0) ? 4 : has(w, 1) ? 2 : 0, has(w, 2) ? 5 : 0, 1), UNKNOWN, NULL, INDEX);
    }

    /** What fault tells after cell, that answers just LOST. */
    private static long faultOfCell(int sheet, int i, int lane) {
        TideWheels x = made(true);
        x.sheet(3, 0, -1);
        due.is("cell", LOST, x.cell(sheet, i, lane));
        return x.fault();
    }

    private static void cells() {
        first("cell: UNKNOWN, OUTSIDE: lane; CAST, INDEX", w -> faultOfCell(
            has(w, 0) ? 4 : 0, has(w, 3) ? 5 : 0, has(w, 1) ? 3 : has(w, 2) ? 1 : 0), 0, 0, 2, 3);
        first("cell: UNKNOWN, OUTSIDE: lane; NULL, INDEX", w -> faultOfCell(
            has(w, 0) ? 4 : has(w, 2) ? 2 : 0, has(w, 3) ? -1 : 0, has(w, 1) ? 3 : 0), 0, 0, 1, 3);
    }

    private static void copies() {
        first("copy: UNKNOWN; NULL (the first, the other)", w -> made(true).copy(
            has(w, 0) ? 4 : has(w, 2) ? 2 : 0, has(w, 4) ? -1 : 0, has(w, 1) ? 4 : has(w, 3) ? 3 : 0, 0, 1),
            UNKNOWN, UNKNOWN, NULL, NULL, INDEX);
        first("copy: UNKNOWN; CAST; INDEX: i, j, n", w -> made(true).copy(
            has(w, 0) ? 4 : 0, has(w, 2) ? 6 : 0, has(w, 1) ? 1 : 0, has(w, 3) ? -1 : 0, has(w, 4) ? -1 : 1),
            UNKNOWN, CAST, INDEX, INDEX, INDEX);
    }
}
