import java.util.function.Supplier;
import java.util.function.ToLongFunction;

/** Calls that just ask, and calls that are taken back, leave all as it was. */
public final class UnchangedTests {
    private static final Due due = new Due("UnchangedTests");
    private static final Twins twins = new Twins(due);

    private UnchangedTests() {
    }

    public static void main(String[] args) {
        asked();
        takenBack();
        bodies();
        due.end();
    }

    private static void asked() {
        due.in("calls that just ask");
        Supplier<TideWheels> made = Made::withAFullTown;
        twins.changesNothing("ofWork", made, x -> x.ofWork(2, 2), 6);
        twins.changesNothing("strength", made, x -> x.strength(0), 23);
        twins.changesNothing("goes", made, x -> x.goes(1), 1);
        twins.changesNothing("late", made, x -> x.late(2, 59), 40);
        twins.changesNothing("all", made, x -> x.all(0), 0);
        twins.changesNothing("alike", made, x -> x.alike(0), 0);
        twins.changesNothing("fewest", made, x -> x.fewest(1, 4, 4), 1);
        twins.changesNothing("help", made, x -> x.help(59, 0), 1);
        twins.changesNothing("help", made, x -> x.help(59, 1), 58);
        twins.changesNothing("starts", made, x -> x.starts(), 0);
        twins.changesNothing("laws", made, x -> x.laws(), 0);
        twins.changesNothing("hung", made, x -> x.hung(), 0);
        twins.changesNothing("freed", made, x -> x.freed(), 0);
        twins.changesNothing("odds", made, x -> x.odds(0, 0, 1), 2);
        twins.changesNothing("trace", made, x -> x.trace(), 91327);
        twins.changesNothing("many", made, x -> x.many(2), 6);
        twins.changesNothing("plan", made, x -> x.plan(0, 0, 2, 1), 23, 0);
        twins.changesNothing("cell", made, x -> x.cell(0, 0, 0), 5, 0);
        twins.changesNothing("as", made, x -> x.as(2, 1), 1, 0);
        twins.changesNothing("copy onto itself", made, x -> x.copy(0, 0, 0, 0, 5), 5, 0);
        twins.changesNothing("copy of none", made, x -> x.copy(0, 5, 0, 0, 0), 0, 0);
    }

    /** Makes both calls and tells what the second answers. */
    private static void bothWays(String name, ToLongFunction<TideWheels> call, ToLongFunction<TideWheels> back,
            long answer) {
        twins.changesNothing(name, Made::withATown, x -> {
            call.applyAsLong(x);
            return back.applyAsLong(x);
        }, answer);
    }

    private static void bodies() {
        due.in("calls that leave numbers in TRACE");
        for (int k = 0; k < 4; k++) {
            int work = k;
            twins.changesJustTheTrace("tell " + k, Made::withAFullTown, x -> x.tell(work),
                new int[] {3, 104, 104, 1}[k]);
            twins.changesJustTheTrace("ring " + k, Made::withAFullTown, x -> x.ring(work), new int[] {0, 1, 30, 3}[k]);
        }
    }

    private static void takenBack() {
        due.in("calls that are taken back");
        bothWays("law", x -> x.law(2), x -> x.law(1), 2);
        bothWays("start", x -> x.start(2), x -> x.start(1), 2);
        bothWays("unhook", x -> x.hook(0, false), x -> x.hook(0, true), 1);
        bothWays("hook", x -> x.hook(3, true), x -> x.hook(3, false), 1);
        bothWays("storm", x -> x.storm(0, 9), x -> x.calm(1), 3);
        bothWays("reading", x -> x.reading(0, 0, 9), x -> x.back(1), 3);
        twins.changesNothing("sheet", Made::withATown, x -> {
            x.sheet(3, 2, 60);
            x.put(3, 5, 6);
            return x.lose(3);
        }, 1, 0);
        twins.changesNothing("put", Made::withATown, x -> {
            x.put(1, 0, 99);
            return x.put(1, 0, 5);
        }, 1, 0);
    }
}
