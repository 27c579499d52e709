import java.util.function.Supplier;
import java.util.function.ToLongFunction;

/** Each refused call and each fault, with what it leaves as it was and what fault tells after it. */
public final class RefusalTests implements Answers {
    private static final int[] NO_SHEETS = {-1, 4, LEAST, MOST};
    private static final int[] NO_LANES = {-1, 3, LEAST, MOST};
    private static final int[] NO_WORKS = {-1, 4, LEAST, MOST};
    private static final int[] NO_HOURS = {-1, 60, LEAST, MOST};

    private static final Due due = new Due("RefusalTests");
    private static final Twins twins = new Twins(due);

    private RefusalTests() {
    }

    public static void main(String[] args) {
        withoutTown();
        townsAndPlans();
        works();
        hoursAndStorms();
        hooksAndReadings();
        sheetsAndCells();
        copies();
        due.end();
    }

    // ---- of calls that name faults, and of those that name none

    private static void faulty(String name, Supplier<TideWheels> made, ToLongFunction<TideWheels> call, long answer) {
        int fault = answer <= NULL && answer >= SIZE ? (int) (-10 - answer) : 0;
        twins.changesNothing(name, made, call, answer, fault);
    }

    private static void refused(String name, Supplier<TideWheels> made, ToLongFunction<TideWheels> call, long answer) {
        twins.changesNothing(name, made, call, answer);
    }

    // ---- calls

    private static void withoutTown() {
        due.in("there is no TOWN");
        Supplier<TideWheels> made = Made::withoutATown;
        refused("law", made, x -> x.law(1), STATE);
        refused("law 3", made, x -> x.law(3), OUTSIDE);
        refused("start", made, x -> x.start(0), OUTSIDE);
        refused("hook", made, x -> x.hook(0, true), UNKNOWN);
        refused("storm", made, x -> x.storm(0, 1), STATE);
        refused("calm", made, x -> x.calm(1), OUTSIDE);
        refused("strength", made, x -> x.strength(0), STATE);
        refused("goes", made, x -> x.goes(0), STATE);
        refused("late", made, x -> x.late(0, 0), UNKNOWN);
        refused("all", made, x -> x.all(0), STATE);
        refused("alike", made, x -> x.alike(0), STATE);
        refused("fewest", made, x -> x.fewest(0, 0, 0), UNKNOWN);
        refused("help", made, x -> x.help(1, 0), STATE);
        faulty("plan", made, x -> x.plan(0, 0, 0, 1), STATE);
        faulty("plan of nothing", made, x -> x.plan(3, 0, 0, 1), STATE);
        refused("reading", made, x -> x.reading(0, 0, 0), UNKNOWN);
        refused("back", made, x -> x.back(1), OUTSIDE);
        refused("starts", made, x -> x.starts(), STATE);
        refused("laws", made, x -> x.laws(), STATE);
        refused("hung", made, x -> x.hung(), STATE);
        refused("freed", made, x -> x.freed(), STATE);
        refused("odds", made, x -> x.odds(0, 0, 0), LOST);
        refused("ofWork", made, x -> x.ofWork(0, 0), UNKNOWN);
        refused("tell", made, x -> x.tell(0), UNKNOWN);
        refused("ring", made, x -> x.ring(0), UNKNOWN);
        faulty("as", made, x -> x.as(0, 0), UNKNOWN);
        refused("many", made, x -> x.many(6), OUTSIDE);
    }

    private static void townsAndPlans() {
        due.in("town");
        Supplier<TideWheels> made = Made::withAFullTown;
        for (int k : NO_SHEETS) {
            faulty("town, sheet " + k, made, x -> x.town(k, 0, 0, 5), UNKNOWN);
            faulty("plan, sheet " + k, made, x -> x.plan(k, 0, 0, 1), UNKNOWN);
        }
        for (int lane : NO_LANES) {
            faulty("town, lane " + lane, made, x -> x.town(0, lane, 0, 5), OUTSIDE);
            faulty("plan, lane " + lane, made, x -> x.plan(0, lane, 0, 1), OUTSIDE);
        }
        faulty("town, another lane", made, x -> x.town(0, 1, 0, 5), CAST);
        faulty("town, nothing", made, x -> x.town(3, 1, 0, 5), NULL);
        faulty("town, n -1", made, x -> x.town(0, 0, 0, -1), SIZE);
        faulty("town, i -1", made, x -> x.town(0, 0, -1, 1), INDEX);
        faulty("town, n 6", made, x -> x.town(0, 0, 0, 6), INDEX);
        faulty("town, i 6", made, x -> x.town(0, 0, 6, 0), INDEX);
        faulty("town, first fault", made, x -> x.town(0, 0, 0, 5), -100);
        faulty("town, no codes", made, x -> x.town(0, 0, 0, 0), -100);
        aTextThatIsNotTaken();
        due.in("plan");
        for (int n : new int[] {-1, 31, LEAST, MOST}) {
            faulty("plan, n " + n, made, x -> x.plan(0, 0, 0, n), OUTSIDE);
        }
        faulty("plan, another lane", made, x -> x.plan(0, 1, 0, 1), CAST);
        faulty("plan, nothing", made, x -> x.plan(3, 1, 0, 1), NULL);
        faulty("plan, i -1", made, x -> x.plan(0, 0, -1, 1), INDEX);
        faulty("plan, n 3", made, x -> x.plan(0, 0, 0, 3), INDEX);
        faulty("plan, i 6", made, x -> x.plan(0, 0, 6, 0), INDEX);
        faulty("plan, first wrong", made, x -> x.plan(0, 0, 0, 2), -101);
        plansWithRowsRefused();
    }

    private static void aTextThatIsNotTaken() {
        for (String text : new String[] {"q,33;w9;s1;", "q,33,11,22,44,55", "q,33;w9;b2;b4;b5;b6;b7;x"}) {
            due.in("town by " + text);
            Supplier<TideWheels> made = () -> {
                TideWheels x = Made.withAFullTown();
                x.sheet(0, 0, text.length());
                for (int i = 0; i < text.length(); i++) {
                    x.put(0, i, text.charAt(i));
                }
                return x;
            };
            int place = text.endsWith("x") ? text.length() - 1 : text.length();
            faulty("town", made, x -> x.town(0, 0, 0, text.length()), -100 - place);
        }
    }

    private static void plansWithRowsRefused() {
        int[][] rows = {{60, 0, OUTSIDE}, {-1, 0, OUTSIDE}, {5, 4, UNKNOWN}, {5, -1, UNKNOWN}, {60, 4, OUTSIDE}};
        for (int[] row : rows) {
            Supplier<TideWheels> made = () -> {
                TideWheels x = Made.withAFullTown();
                x.put(2, 2, row[0]);
                x.put(2, 3, row[1]);
                return x;
            };
            faulty("plan, row " + row[0] + ", " + row[1], made, x -> x.plan(2, 2, 0, 2), row[2]);
        }
    }

    private static void works() {
        due.in("calls of a WORK");
        Supplier<TideWheels> made = Made::withATown;
        for (int k : NO_WORKS) {
            refused("ofWork of " + k, made, x -> x.ofWork(k, 0), UNKNOWN);
            refused("hook of " + k, made, x -> x.hook(k, true), UNKNOWN);
            refused("unhook of " + k, made, x -> x.hook(k, false), UNKNOWN);
            refused("late of " + k, made, x -> x.late(k, 0), UNKNOWN);
            refused("fewest of " + k, made, x -> x.fewest(k, 0, 0), UNKNOWN);
            refused("reading of " + k, made, x -> x.reading(k, 0, 0), UNKNOWN);
            refused("odds of " + k, made, x -> x.odds(k, 0, 0), LOST);
            refused("tell of " + k, made, x -> x.tell(k), UNKNOWN);
            refused("ring of " + k, made, x -> x.ring(k), UNKNOWN);
            faulty("as of " + k, made, x -> x.as(k, 0), UNKNOWN);
        }
        for (int what : new int[] {-1, 4, LEAST, MOST}) {
            refused("ofWork, what " + what, made, x -> x.ofWork(0, what), OUTSIDE);
        }
        for (int kind : new int[] {-1, 3, LEAST, MOST}) {
            faulty("as, kind " + kind, made, x -> x.as(0, kind), OUTSIDE);
        }
        faulty("as a BARNACLED", made, x -> x.as(0, 1), CAST);
        faulty("as a SAINT", made, x -> x.as(1, 2), CAST);
        refused("hooked already", made, x -> x.hook(0, true), 0);
        refused("unhooked already", made, x -> x.hook(3, false), 0);
    }

    private static void hoursAndStorms() {
        due.in("calls of an HOUR, of STORMS");
        Supplier<TideWheels> made = Made::withATown;
        Supplier<TideWheels> full = Made::withAFullTown;
        for (int v : new int[] {-1, 3, LEAST, MOST}) {
            refused("law " + v, made, x -> x.law(v), OUTSIDE);
            refused("start " + v, made, x -> x.start(v), OUTSIDE);
        }
        for (int hour : NO_HOURS) {
            refused("storm, hour " + hour, made, x -> x.storm(hour, 1), OUTSIDE);
            refused("storm, hour " + hour + ", full", full, x -> x.storm(hour, 1), OUTSIDE);
            refused("strength, hour " + hour, made, x -> x.strength(hour), OUTSIDE);
            refused("goes, hour " + hour, made, x -> x.goes(hour), OUTSIDE);
            refused("late, hour " + hour, made, x -> x.late(0, hour), OUTSIDE);
            refused("all, hour " + hour, made, x -> x.all(hour), OUTSIDE);
            refused("alike, hour " + hour, made, x -> x.alike(hour), OUTSIDE);
            refused("fewest, from " + hour, made, x -> x.fewest(0, hour, 59), OUTSIDE);
            refused("fewest, to " + hour, made, x -> x.fewest(0, 0, hour), OUTSIDE);
            refused("reading, hour " + hour, made, x -> x.reading(0, hour, 0), OUTSIDE);
            refused("odds, hour " + hour, made, x -> x.odds(0, hour, 0), LOST);
        }
        for (int v : new int[] {-60, 60, LEAST, MOST}) {
            refused("storm, v " + v, made, x -> x.storm(0, v), OUTSIDE);
            refused("help, v " + v, made, x -> x.help(v, 0), OUTSIDE);
        }
        refused("a seventh storm", full, x -> x.storm(0, 1), FULL);
        for (int k : new int[] {-1, 4, LEAST, MOST}) {
            refused("calm " + k, made, x -> x.calm(k), OUTSIDE);
        }
        refused("calm 7", full, x -> x.calm(7), OUTSIDE);
        refused("calm 0", full, x -> x.calm(0), 6);
    }

    private static void hooksAndReadings() {
        due.in("fewest, help, READINGS");
        Supplier<TideWheels> made = Made::withATown;
        Supplier<TideWheels> full = Made::withAFullTown;
        refused("fewest, to below from", made, x -> x.fewest(0, 1, 0), OUTSIDE);
        refused("fewest, not hooked", made, x -> x.fewest(3, 0, 0), NONE);
        for (int what : new int[] {-1, 2, LEAST, MOST}) {
            refused("help, what " + what, made, x -> x.help(1, what), OUTSIDE);
            refused("odds, which " + what, made, x -> x.odds(0, 0, what), LOST);
        }
        refused("help that is none", full, x -> x.help(0, 0), NONE);
        for (int late : new int[] {-1, 61, LEAST, MOST}) {
            refused("reading, late " + late, made, x -> x.reading(0, 0, late), OUTSIDE);
            refused("reading, late " + late + ", full", full, x -> x.reading(0, 0, late), OUTSIDE);
        }
        refused("a ninth reading", full, x -> x.reading(0, 0, 0), FULL);
        for (int k : new int[] {-1, 4, LEAST, MOST}) {
            refused("back " + k, made, x -> x.back(k), OUTSIDE);
        }
        refused("back 9", full, x -> x.back(9), OUTSIDE);
        refused("back 0", full, x -> x.back(0), 8);
        for (int what : new int[] {-1, 6, LEAST, MOST}) {
            refused("many, what " + what, full, x -> x.many(what), OUTSIDE);
        }
    }

    private static void sheetsAndCells() {
        due.in("SHEETS");
        Supplier<TideWheels> made = Made::withATown;
        for (int k : NO_SHEETS) {
            faulty("sheet " + k, made, x -> x.sheet(k, 0, 1), UNKNOWN);
            refused("lose " + k, made, x -> x.lose(k), UNKNOWN);
            faulty("put " + k, made, x -> x.put(k, 0, 1), UNKNOWN);
            twins.changesNothing("cell " + k, made, x -> x.cell(k, 0, 0), LOST, 0);
        }
        refused("lose nothing", made, x -> x.lose(3), 0);
        for (int lane : NO_LANES) {
            faulty("sheet, lane " + lane, made, x -> x.sheet(0, lane, 1), OUTSIDE);
            faulty("sheet, lane " + lane + ", n -1", made, x -> x.sheet(0, lane, -1), OUTSIDE);
            twins.changesNothing("cell, lane " + lane, made, x -> x.cell(0, 0, lane), LOST, 0);
        }
        faulty("sheet, n 61", made, x -> x.sheet(0, 0, 61), OUTSIDE);
        faulty("sheet, n most", made, x -> x.sheet(0, 0, MOST), OUTSIDE);
        faulty("sheet, n -1", made, x -> x.sheet(0, 0, -1), SIZE);
        faulty("sheet, n least", made, x -> x.sheet(0, 0, LEAST), SIZE);
        faulty("put on nothing", made, x -> x.put(3, 0, 1), NULL);
        twins.changesNothing("cell of nothing", made, x -> x.cell(3, 0, 0), LOST, 1);
        twins.changesNothing("cell of another lane", made, x -> x.cell(0, 0, 1), LOST, 2);
        for (int i : new int[] {-1, 5, LEAST, MOST}) {
            faulty("put, i " + i, made, x -> x.put(0, i, 1), INDEX);
            twins.changesNothing("cell, i " + i, made, x -> x.cell(0, i, 0), LOST, 3);
        }
    }

    private static void copies() {
        due.in("copy");
        Supplier<TideWheels> made = Made::withATown;
        for (int k : NO_SHEETS) {
            faulty("from " + k, made, x -> x.copy(k, 0, 0, 1, 1), UNKNOWN);
            faulty("to " + k, made, x -> x.copy(0, 0, k, 1, 1), UNKNOWN);
        }
        faulty("from nothing", made, x -> x.copy(3, 0, 0, 1, 1), NULL);
        faulty("to nothing", made, x -> x.copy(0, 0, 3, 1, 1), NULL);
        faulty("unlike lanes", made, x -> x.copy(0, 0, 1, 1, 1), CAST);
        faulty("unlike lanes", made, x -> x.copy(2, 0, 1, 1, 1), CAST);
        int[][] wrong = {{-1, 1, 1}, {0, -1, 1}, {0, 1, -1}, {0, 1, 5}, {1, 0, 5}, {6, 0, 0}, {0, 6, 0}, {1, 2, 4},
            {0, 1, MOST}, {MOST, 0, 1}, {0, LEAST, 1}};
        for (int[] ijn : wrong) {
            faulty("i " + ijn[0] + ", j " + ijn[1] + ", n " + ijn[2], made,
                x -> x.copy(0, ijn[0], 0, ijn[1], ijn[2]), INDEX);
        }
    }
}
