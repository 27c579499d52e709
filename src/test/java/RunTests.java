import java.lang.reflect.Method;
import java.util.Arrays;
import java.util.LinkedHashMap;
import java.util.Map;

/** Long runs of all calls in any order, each call's answer beside that of PlainWheels. */
public final class RunTests {
    private static final int RUNS = 300, CALLS = 512;
    private static final int[] EDGES = {Integer.MIN_VALUE, -61, -60, -59, -2, -1, 0, 1, 2, 3, 4, 5, 6, 7, 8, 9, 29, 30, 31,
        58, 59, 60, 61, 62, 127, 128, 255, 32767, 32768, 65536, Integer.MAX_VALUE / 2 + 1, Integer.MAX_VALUE};
    private static final String CODES = "q,;wbs0123456789";

    /**
     * The calls, and what their arguments mostly are: s a sheet, l a lane, i a place, n how many cells, r rows,
     * k a work, h an hour, v a storm's strength, u how late, b a boolean, c a code or a plan's number, digits up to it.
     */
    private static final String[] CALLS_TOLD = {"town slin", "ofWork k3", "law 2", "start 5", "hook kb", "storm hv",
        "calm 2", "strength h", "goes h", "late kh", "all h", "alike h", "fewest khh", "help v1", "plan slir",
        "reading khu", "back 2", "starts ", "laws ", "hung ", "freed ", "odds kh1", "sheet sln", "lose s", "put sic",
        "cell sil", "copy sisin", "tell k", "ring k", "as k2", "trace ", "fault ", "many 5"};

    private static final Due due = new Due("RunTests");
    private static long seed = 512;

    private final TideWheels wheels = new TideWheels();
    private final PlainWheels plain = new PlainWheels();
    private int calls;
    private int works;

    private RunTests() {
    }

    public static void main(String[] args) throws ReflectiveOperationException {
        Map<String, Method[]> methods = new LinkedHashMap<>();
        for (Method method : TideWheels.class.getDeclaredMethods()) {
            if (java.lang.reflect.Modifier.isPublic(method.getModifiers())) {
                methods.put(method.getName(), new Method[] {method,
                    PlainWheels.class.getMethod(method.getName(), method.getParameterTypes())});
            }
        }
        due.is("how many calls are told", methods.size(), CALLS_TOLD.length);
        for (int r = 0; r < RUNS; r++) {
            due.in("run " + r);
            new RunTests().run(methods);
        }
        due.end();
    }

    private static int next(int n) {
        seed = seed * 6364136223846793005L + 1442695040888963407L;
        return (int) ((seed >>> 33) % n);
    }

    private void run(Map<String, Method[]> methods) throws ReflectiveOperationException {
        while (calls < CALLS) {
            int step = next(60);
            if (step == 0) {
                tellAText(methods);
            } else if (step == 1) {
                tellAPlan(methods);
            } else if (step < 6) {
                tellAReading(methods);
            } else {
                String told = CALLS_TOLD[next(CALLS_TOLD.length)];
                String kinds = told.substring(told.indexOf(' ') + 1);
                Object[] arguments = new Object[kinds.length()];
                for (int a = 0; a < arguments.length; a++) {
                    arguments[a] = argument(kinds.charAt(a));
                }
                call(methods, told.substring(0, told.indexOf(' ')), arguments);
            }
        }
    }

    /** An object has no more calls than those that it is made for. */
    private long call(Map<String, Method[]> methods, String name, Object... arguments)
            throws ReflectiveOperationException {
        if (calls >= CALLS) {
            return 0;
        }
        calls++;
        long answer = ((Number) methods.get(name)[0].invoke(wheels, arguments)).longValue();
        long wanted = ((Number) methods.get(name)[1].invoke(plain, arguments)).longValue();
        due.is("call " + calls + ", " + name + Arrays.toString(arguments), wanted, answer);
        works = plain.many(0);
        return wanted;
    }

    private Object argument(char kind) {
        if (kind == 'b') {
            return next(2) == 0;
        }
        if (next(16) == 0) {
            return EDGES[next(EDGES.length)];
        }
        switch (kind) {
            case 's': return next(4);
            case 'l': return next(3);
            case 'i': return next(next(3) == 0 ? 60 : 5);
            case 'n': return next(next(3) == 0 ? 61 : 9);
            case 'r': return next(next(3) == 0 ? 31 : 3);
            case 'k': return next(works + (works == 0 || next(8) == 0 ? 1 : 0));
            case 'h': return next(next(3) == 0 ? 6 : 60);
            case 'v': return next(119) - 59;
            case 'u': return next(next(3) == 0 ? 61 : 8);
            case 'c': return next(2) == 0 ? CODES.charAt(next(CODES.length())) : next(60);
            default: return next(kind - '0' + 1);
        }
    }

    /** Mostly one that is taken, at times with a code otherwise. */
    private void tellAText(Map<String, Method[]> methods) throws ReflectiveOperationException {
        StringBuilder text = new StringBuilder("q");
        int most = 1 + next(60);
        for (int t = next(6); t >= 0; t--) {
            int strength = next(most);
            text.append(',').append(strength / 10).append(strength % 10);
        }
        for (int k = next(8); k >= 0; k--) {
            text.append(';').append("wbs".charAt(next(3))).append(1 + next(9));
        }
        if (next(3) == 0) {
            text.setCharAt(next(text.length()), CODES.charAt(next(CODES.length())));
        }
        int sheet = next(4);
        int lane = next(3);
        int from = next(8);
        call(methods, "sheet", sheet, lane, from + text.length() + next(5));
        for (int i = 0; i < text.length(); i++) {
            call(methods, "put", sheet, from + i, (int) text.charAt(i));
        }
        call(methods, "town", sheet, lane, from, text.length() - (next(4) == 0 ? 1 : 0));
    }

    /** One that is so, at least ahead of other changes. */
    private void tellAReading(Map<String, Method[]> methods) throws ReflectiveOperationException {
        Object k = argument('k');
        Object hour = argument('h');
        call(methods, "reading", k, hour, (int) Math.max(0, call(methods, "late", k, hour)));
    }

    /** Mostly one with rows in their order. */
    private void tellAPlan(Map<String, Method[]> methods) throws ReflectiveOperationException {
        int rows = next(8);
        int sheet = next(4);
        int lane = next(3);
        call(methods, "sheet", sheet, lane, 2 * rows + 1);
        int hour = next(6);
        for (int r = 0; r < rows; r++) {
            call(methods, "put", sheet, 2 * r, hour);
            call(methods, "put", sheet, 2 * r + 1, argument('k'));
            hour += next(12) - (next(12) == 0 ? 9 : 0);
        }
        call(methods, "plan", sheet, lane, 0, rows);
        call(methods, "plan", sheet, lane, 0, Math.max(0, rows - 1));
    }
}
