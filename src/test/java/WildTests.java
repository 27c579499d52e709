/** Calls with any arguments in any state: none throws, and a refusal or a fault changes nothing. */
public final class WildTests {
    /** In all an object has fewer than the 512 calls for which it is made. */
    private static final int OBJECTS = 3000, CALLS = 300, LOOKED_AT = 3;
    private static final int[] EDGES = {Integer.MIN_VALUE, -61, -60, -59, -1, 0, 1, 2, 3, 4, 5, 6, 7, 8, 9, 30, 31, 59,
        60, 61, 62, 255, 65536, Integer.MAX_VALUE / 2 + 1, Integer.MAX_VALUE};
    private static final String[] TEXTS = {"q,14,09,05;w3;b4;s2;w1", "q,00;s9", "q,59,20;w1;w1;w1;w1;w1;w1;w1;w1"};

    private static final Due due = new Due("WildTests");
    private static long seed = 7;

    private WildTests() {
    }

    public static void main(String[] args) {
        for (int t = 0; t < OBJECTS; t++) {
            due.in("object " + t);
            TideWheels x = t % 4 == 0 ? new TideWheels() : Towns.of(TEXTS[t % 4 - 1]);
            for (int c = 0; c < CALLS; c++) {
                oneCall(x, false);
            }
            for (int c = 0; c < LOOKED_AT; c++) {
                oneCall(x, true);
            }
        }
        due.end();
    }

    private static int next(int n) {
        seed = seed * 6364136223846793005L + 1442695040888963407L;
        return (int) ((seed >>> 33) % n);
    }

    /** Mostly one that is fine, at times any other. */
    private static int any() {
        return next(3) == 0 ? EDGES[next(EDGES.length)] : next(4);
    }

    private static void oneCall(TideWheels x, boolean looks) {
        int which = next(33);
        int[] a = {any(), any(), any(), any(), any()};
        String call = "call " + which + " of " + java.util.Arrays.toString(a);
        try {
            long before = looks ? digest(x) : 0;
            boolean refused = answer(x, which, a) < 0;
            if (looks && refused) {
                due.is(call + " changed something", before, digest(x));
            }
        } catch (RuntimeException thrown) {
            due.is(call + " threw " + thrown, 0, 1);
        }
    }

    /** A number of all that can be seen of the state without many calls, but for fault. */
    private static long digest(TideWheels x) {
        long digest = x.trace();
        for (int what = 0; what < 6; what++) {
            digest = 31 * digest + x.many(what);
        }
        for (int k = 0; k < 8; k++) {
            digest = 31 * digest + x.ofWork(k, 3);
            digest = 31 * digest + x.ofWork(k, 2);
        }
        digest = 31 * digest + x.help(0, 1);
        return 31 * digest + x.freed();
    }

    private static long answer(TideWheels x, int which, int[] a) {
        if (which < 12) {
            return answerOfTownAndHours(x, which, a);
        }
        return which < 22 ? answerOfHooksAndReadings(x, which, a) : answerOfParts(x, which, a);
    }

    private static long answerOfTownAndHours(TideWheels x, int which, int[] a) {
        switch (which) {
            case 0: return x.town(a[0], a[1], a[2], a[3]);
            case 1: return x.ofWork(a[0], a[1]);
            case 2: return x.law(a[0]);
            case 3: return x.start(a[0]);
            case 4: return x.hook(a[0], a[1] > 1);
            case 5: return x.storm(a[0], a[1]);
            case 6: return x.calm(a[0]);
            case 7: return x.strength(a[0]);
            case 8: return x.goes(a[0]);
            case 9: return x.late(a[0], a[1]);
            case 10: return x.all(a[0]);
            default: return x.alike(a[0]);
        }
    }

    private static long answerOfHooksAndReadings(TideWheels x, int which, int[] a) {
        switch (which) {
            case 12: return x.fewest(a[0], a[1], a[2]);
            case 13: return x.help(a[0], a[1]);
            case 14: return x.plan(a[0], a[1], a[2], a[3]);
            case 15: return x.reading(a[0], a[1], a[2]);
            case 16: return x.back(a[0]);
            case 17: return x.starts();
            case 18: return x.laws();
            case 19: return x.hung();
            case 20: return x.freed();
            default: return x.odds(a[0], a[1], a[2]);
        }
    }

    private static long answerOfParts(TideWheels x, int which, int[] a) {
        switch (which) {
            case 22: return x.sheet(a[0], a[1], a[2]);
            case 23: return x.lose(a[0]);
            case 24: return x.put(a[0], a[1], a[2]);
            case 25: return x.cell(a[0], a[1], a[2]);
            case 26: return x.copy(a[0], a[1], a[2], a[3], a[4]);
            case 27: return x.tell(a[0]);
            case 28: return x.ring(a[0]);
            case 29: return x.as(a[0], a[1]);
            case 30: return x.trace();
            case 31: return x.fault();
            default: return x.many(a[0]);
        }
    }
}
