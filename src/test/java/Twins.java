import java.util.ArrayList;
import java.util.List;
import java.util.function.Supplier;
import java.util.function.ToLongFunction;

/** Two objects made alike: what a call changed is seen beside the one that had no such call. */
final class Twins {
    /** What fault tells ahead of the call: whichever the call should tell, one of these is another. */
    private static final int[] FAULTS_AHEAD = {0, 1, 4};
    private static final int LOOKED_AT_CELLS = 7;

    private final Due due;

    Twins(Due due) {
        this.due = due;
    }

    /** A call that names faults: it answers so, fault tells so, and all else is as it was. */
    void changesNothing(String name, Supplier<TideWheels> made, ToLongFunction<TideWheels> call, long answer,
            int fault) {
        for (int ahead : FAULTS_AHEAD) {
            answersSo(name, made, ahead, call, answer, fault);
        }
        leavesTheTrace(name, made, call);
    }

    /** A call that names no faults: it answers so, and all is as it was, fault too. */
    void changesNothing(String name, Supplier<TideWheels> made, ToLongFunction<TideWheels> call, long answer) {
        changesJustTheTrace(name, made, call, answer);
        leavesTheTrace(name, made, call);
    }

    /** A call that names no faults: it answers so, and all but the trace is as it was, fault too. */
    void changesJustTheTrace(String name, Supplier<TideWheels> made, ToLongFunction<TideWheels> call, long answer) {
        for (int ahead : FAULTS_AHEAD) {
            answersSo(name, made, ahead, call, answer, ahead);
        }
    }

    private void answersSo(String name, Supplier<TideWheels> made, int ahead, ToLongFunction<TideWheels> call,
            long answer, int fault) {
        TideWheels called = madeWithFault(made, ahead);
        due.is(name, answer, call.applyAsLong(called));
        due.is(name + ", then fault()", fault, called.fault());
        areAlike(name, seen(made.get()), seen(called));
    }

    /** Looked at by itself: the calls by which all else is seen might change the trace of both. */
    private void leavesTheTrace(String name, Supplier<TideWheels> made, ToLongFunction<TideWheels> call) {
        TideWheels called = made.get();
        call.applyAsLong(called);
        due.is(name + ", then trace()", made.get().trace(), called.trace());
    }

    /** Comes to a fault that is answered without a town, too; sheet 3 has nothing in what the tests make. */
    private TideWheels madeWithFault(Supplier<TideWheels> made, int fault) {
        TideWheels x = made.get();
        if (fault == 1) {
            x.put(3, 0, 0);
        } else if (fault == 4) {
            x.sheet(3, 0, -1);
        } else {
            x.town(-1, 0, 0, 0);
        }
        due.is("fault() ahead", fault, x.fault());
        return x;
    }

    private void areAlike(String name, List<Long> dues, List<Long> answers) {
        due.is(name + " left so much to be seen", dues.size(), answers.size());
        for (int i = 0; i < Math.min(dues.size(), answers.size()); i++) {
            due.is(name + " changed what is seen " + i, dues.get(i), answers.get(i));
        }
    }

    /** All that can be seen of an object but fault and trace; some 250 calls, at last neither storms nor readings. */
    private static List<Long> seen(TideWheels x) {
        List<Long> seen = new ArrayList<>();
        for (int what = 0; what < 6; what++) {
            seen.add((long) x.many(what));
        }
        for (int k = 0; k < 8; k++) {
            for (int what = 0; what < 4; what++) {
                seen.add((long) x.ofWork(k, what));
            }
        }
        for (int hour = 0; hour < 60; hour++) {
            seen.add((long) x.strength(hour));
        }
        seen.add((long) x.goes(1));
        seeSheets(x, seen);
        seeReadings(x, seen);
        seeStorms(x, seen);
        return seen;
    }

    private static void seeSheets(TideWheels x, List<Long> seen) {
        for (int k = 0; k < 4; k++) {
            for (int lane = 0; lane < 3; lane++) {
                for (int i = 0; i < LOOKED_AT_CELLS; i++) {
                    seen.add(x.cell(k, i, lane));
                }
            }
        }
    }

    /** From the last one on, for a reading that does not hold hides those ahead of it. */
    private static void seeReadings(TideWheels x, List<Long> seen) {
        for (int left = x.many(3); left >= 0; left--) {
            seen.add((long) x.starts());
            seen.add((long) x.laws());
            seen.add((long) x.hung());
            seen.add((long) x.freed());
            seen.add((long) x.back(left > 0 ? 1 : 0));
        }
    }

    private static void seeStorms(TideWheels x, List<Long> seen) {
        for (int left = x.many(2); left > 0; left--) {
            seen.add((long) x.calm(1));
            seen.add((long) x.strength(0));
            seen.add((long) x.strength(1));
        }
    }
}
