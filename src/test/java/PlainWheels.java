import java.lang.reflect.Array;
import java.util.Objects;
import java.util.function.LongSupplier;
import java.util.regex.Matcher;
import java.util.regex.Pattern;

/** The whole face told as plainly as the document tells it: its rows are rows, its faults the machine's own. */
public final class PlainWheels implements Answers {
    private static final Pattern TEXT = Pattern.compile("q(,[0-5][0-9]){1,6}(;[wbs][1-9]){1,8}");
    private static final Class<?>[] LANES = {byte[].class, short[].class, int[].class};
    private static final Class<?>[] NUMBERS = {byte.class, short.class, int.class};

    private static class Work {
    }

    private static class Barnacled extends Work {
    }

    private static final class Saint extends Barnacled {
    }

    private static final Class<?>[] KINDS = {Work.class, Barnacled.class, Saint.class};

    private final Object[] sheets = new Object[4];
    private PlainTown town;
    private int[] kinds = {};
    private int[] weights = {};
    private int trace;
    private int fault;

    // ---- what calls are refused by

    /** A call that names faults: of what the machine throws in it the fault is told. */
    private long named(LongSupplier call) {
        fault = 0;
        try {
            return call.getAsLong();
        } catch (NullPointerException thrown) {
            fault = 1;
        } catch (ClassCastException | ArrayStoreException thrown) {
            fault = 2;
        } catch (IndexOutOfBoundsException thrown) {
            fault = 3;
        } catch (NegativeArraySizeException thrown) {
            fault = 4;
        }
        return -10 - fault;
    }

    private static boolean in(int v, int least, int most) {
        return least <= v && v <= most;
    }

    private static boolean isSheet(int k) {
        return in(k, 0, 3);
    }

    private static boolean isLane(int lane) {
        return in(lane, 0, 2);
    }

    private static boolean isHour(int hour) {
        return in(hour, 0, 59);
    }

    private boolean isWork(int k) {
        return in(k, 0, weights.length - 1);
    }

    /** Cells as ints; throws as the machine does. */
    private int[] cells(int sheet, int lane, int i, int n) {
        Object row = LANES[lane].cast(sheets[sheet]);
        int length = Array.getLength(row);
        if (n < 0) {
            throw new NegativeArraySizeException();
        }
        Objects.checkFromIndexSize(i, n, length);
        int[] cells = new int[n];
        for (int c = 0; c < n; c++) {
            cells[c] = Array.getInt(row, i + c);
        }
        return cells;
    }

    // ---- 1 the town

    public int town(int sheet, int lane, int i, int n) {
        return (int) named(() -> !isSheet(sheet) ? UNKNOWN : !isLane(lane) ? OUTSIDE : taken(cells(sheet, lane, i, n)));
    }

    private int taken(int[] codes) {
        StringBuilder text = new StringBuilder();
        for (int code : codes) {
            text.append(in(code, 0, 127) ? (char) code : 'x');
        }
        for (int end = 1; end <= codes.length; end++) {
            Matcher start = TEXT.matcher(text.substring(0, end));
            if (!start.matches() && !start.hitEnd()) {
                return -100 - (end - 1);
            }
        }
        if (!TEXT.matcher(text).matches()) {
            return -100 - codes.length;
        }
        makeAnew(text.substring(2).split(";"));
        return weights.length;
    }

    private void makeAnew(String[] parts) {
        String[] tides = parts[0].split(",");
        int[] strengths = new int[tides.length];
        for (int t = 0; t < tides.length; t++) {
            strengths[t] = Integer.parseInt(tides[t]);
        }
        kinds = new int[parts.length - 1];
        weights = new int[parts.length - 1];
        int[] takes = new int[parts.length - 1];
        for (int k = 0; k < takes.length; k++) {
            kinds[k] = "wbs".indexOf(parts[k + 1].charAt(0));
            weights[k] = parts[k + 1].charAt(1) - '0';
            takes[k] = kinds[k] == 0 ? weights[k] : kinds[k] == 1 ? weights[k] + 1 : 2 * (weights[k] + 1);
        }
        town = new PlainTown(strengths, takes);
    }

    public int ofWork(int k, int what) {
        if (!isWork(k)) {
            return UNKNOWN;
        }
        return !in(what, 0, 3) ? OUTSIDE
            : new int[] {kinds[k], weights[k], town.takes[k], town.hooked[k] ? 1 : 0}[what];
    }

    public int law(int v) {
        if (!in(v, 0, 2)) {
            return OUTSIDE;
        }
        if (town == null) {
            return STATE;
        }
        int was = town.law;
        town.law = v;
        return was;
    }

    public int start(int v) {
        if (town == null || !in(v, 0, town.tides.length - 1)) {
            return OUTSIDE;
        }
        int was = town.start;
        town.start = v;
        return was;
    }

    public int hook(int k, boolean is) {
        if (!isWork(k)) {
            return UNKNOWN;
        }
        boolean was = town.hooked[k];
        town.hooked[k] = is;
        return was == is ? 0 : 1;
    }

    public int storm(int hour, int v) {
        if (town == null) {
            return STATE;
        }
        if (!isHour(hour) || !in(v, -59, 59)) {
            return OUTSIDE;
        }
        if (town.storms.size() == 6) {
            return FULL;
        }
        town.storms.add(new int[] {hour, v});
        return town.storms.size() - 1;
    }

    public int calm(int k) {
        return town == null ? k == 0 ? 0 : OUTSIDE : without(town.storms, k);
    }

    private static int without(java.util.List<int[]> list, int k) {
        if (!in(k, 0, list.size())) {
            return OUTSIDE;
        }
        list.subList(list.size() - k, list.size()).clear();
        return list.size();
    }

    // ---- 2 hours

    public int strength(int hour) {
        return !isHour(hour) ? OUTSIDE : town == null ? STATE : town.strength(hour);
    }

    public int goes(int hour) {
        return !isHour(hour) ? OUTSIDE : town == null ? STATE : town.goes(hour);
    }

    public int late(int k, int hour) {
        return !isWork(k) ? UNKNOWN : !isHour(hour) ? OUTSIDE : town.late(k, hour);
    }

    public int all(int hour) {
        return !isHour(hour) ? OUTSIDE : town == null ? STATE : town.all(hour);
    }

    public int alike(int hour) {
        return !isHour(hour) ? OUTSIDE : town == null ? STATE : town.alike(hour);
    }

    // ---- 3 hooks, storms

    public int fewest(int k, int from, int to) {
        return !isWork(k) ? UNKNOWN : !isHour(from) || !isHour(to) || to < from ? OUTSIDE : town.fewest(k, from, to);
    }

    public int help(int v, int what) {
        return !in(v, -59, 59) || !in(what, 0, 1) ? OUTSIDE : town == null ? STATE : town.help(v, what);
    }

    public int plan(int sheet, int lane, int i, int n) {
        return (int) named(() -> !isSheet(sheet) ? UNKNOWN : !isLane(lane) || !in(n, 0, 30) ? OUTSIDE
            : town == null ? STATE : planned(cells(sheet, lane, i, 2 * n)));
    }

    private int planned(int[] cells) {
        for (int c = 0; c < cells.length; c += 2) {
            if (!isHour(cells[c])) {
                return OUTSIDE;
            }
            if (!isWork(cells[c + 1])) {
                return UNKNOWN;
            }
        }
        for (int c = 2; c < cells.length; c += 2) {
            if (cells[c] < cells[c - 2]) {
                return -100 - c / 2;
            }
        }
        return town.plan(cells);
    }

    // ---- 4 how late works were

    public int reading(int k, int hour, int late) {
        if (!isWork(k)) {
            return UNKNOWN;
        }
        if (!isHour(hour) || !in(late, 0, 60)) {
            return OUTSIDE;
        }
        if (town.readings.size() == 8) {
            return FULL;
        }
        town.readings.add(new int[] {k, hour, late});
        return town.readings.size() - 1;
    }

    public int back(int k) {
        return town == null ? k == 0 ? 0 : OUTSIDE : without(town.readings, k);
    }

    public int starts() {
        return town == null ? STATE : town.starts();
    }

    public int laws() {
        return town == null ? STATE : town.laws();
    }

    public int hung() {
        return town == null ? STATE : town.hung();
    }

    public int freed() {
        return town == null ? STATE : town.freed();
    }

    public long odds(int k, int hour, int which) {
        return !isWork(k) || !isHour(hour) || !in(which, 0, 1) ? LOST : town.odds(k, hour, which);
    }

    // ---- 5 sheets, parts

    public int sheet(int k, int lane, int n) {
        return (int) named(() -> {
            if (!isSheet(k)) {
                return UNKNOWN;
            }
            if (!isLane(lane) || n > 60) {
                return OUTSIDE;
            }
            sheets[k] = Array.newInstance(NUMBERS[lane], n);
            return 1;
        });
    }

    public int lose(int k) {
        if (!isSheet(k)) {
            return UNKNOWN;
        }
        boolean had = sheets[k] != null;
        sheets[k] = null;
        return had ? 1 : 0;
    }

    public int put(int k, int i, int v) {
        return (int) named(() -> {
            if (!isSheet(k)) {
                return UNKNOWN;
            }
            if (sheets[k] instanceof byte[] row) {
                row[i] = (byte) v;
            } else if (sheets[k] instanceof short[] row) {
                row[i] = (short) v;
            } else {
                ((int[]) sheets[k])[i] = v;
            }
            return 1;
        });
    }

    public long cell(int k, int i, int lane) {
        long answer = named(() -> !isSheet(k) || !isLane(lane) ? LOST : Array.getInt(LANES[lane].cast(sheets[k]), i));
        return fault != 0 ? LOST : answer;
    }

    public int copy(int k, int i, int other, int j, int n) {
        return (int) named(() -> {
            if (!isSheet(k) || !isSheet(other)) {
                return UNKNOWN;
            }
            System.arraycopy(sheets[k], i, sheets[other], j, n);
            return n;
        });
    }

    private void leave(int... numbers) {
        for (int number : numbers) {
            trace = 31 * trace + number;
        }
    }

    public int tell(int k) {
        if (!isWork(k)) {
            return UNKNOWN;
        }
        leave(new int[][] {{1}, {2, 1}, {3, 2, 1, 1}}[kinds[k]]);
        return new int[] {weights[k], weights[k] + 100, weights[k] + 100 + weights[k]}[kinds[k]];
    }

    public int ring(int k) {
        if (!isWork(k)) {
            return UNKNOWN;
        }
        leave(kinds[k] == 2 ? 5 : 4);
        return kinds[k] == 2 ? 30 : k;
    }

    public int as(int k, int kind) {
        return (int) named(() -> {
            if (!isWork(k)) {
                return UNKNOWN;
            }
            if (!in(kind, 0, 2)) {
                return OUTSIDE;
            }
            Work work = kinds[k] == 0 ? new Work() : kinds[k] == 1 ? new Barnacled() : new Saint();
            return KINDS[kind].cast(work) == work ? 1 : 0;
        });
    }

    public int trace() {
        return trace;
    }

    public int fault() {
        return fault;
    }

    public int many(int what) {
        if (!in(what, 0, 5)) {
            return OUTSIDE;
        }
        return town == null ? 0 : new int[] {weights.length, town.tides.length, town.storms.size(),
            town.readings.size(), town.law, town.start}[what];
    }
}
