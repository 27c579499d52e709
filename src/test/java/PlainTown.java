import java.util.ArrayList;
import java.util.List;

/** A town told as plainly as the document tells it, with no short cuts: TideWheels must answer alike. */
final class PlainTown {
    static final int NONE = -9;
    static final int HOURS = 60;

    final int[] tides;
    final int[] takes;
    final boolean[] hooked;
    int law;
    int start;
    final List<int[]> storms = new ArrayList<>();
    final List<int[]> readings = new ArrayList<>();

    PlainTown(int[] tides, int[] takes) {
        this.tides = tides;
        this.takes = takes;
        this.hooked = new boolean[takes.length];
        java.util.Arrays.fill(hooked, true);
    }

    int strength(int hour) {
        int strength = tides[(start + hour) % tides.length];
        for (int[] storm : storms) {
            if (storm[0] == hour) {
                strength += storm[1];
            }
        }
        return strength < 0 ? 0 : strength;
    }

    boolean[] going(int hour) {
        boolean[] going = hooked.clone();
        while (together(going) > strength(hour)) {
            going[toStop(going)] = false;
        }
        return going;
    }

    private int together(boolean[] going) {
        int sum = 0;
        for (int k = 0; k < takes.length; k++) {
            sum += going[k] ? takes[k] : 0;
        }
        return sum;
    }

    private int toStop(boolean[] going) {
        int best = -1;
        for (int k = 0; k < takes.length; k++) {
            if (!going[k]) {
                continue;
            }
            boolean ahead = best < 0 || law == 1 && takes[k] > takes[best] || law == 2 && takes[k] < takes[best];
            best = ahead ? k : best;
        }
        return best;
    }

    int late(int k, int hour) {
        int late = 0;
        for (int h = 0; h <= hour; h++) {
            late += hooked[k] && !going(h)[k] ? 1 : 0;
        }
        return late;
    }

    int allLate() {
        int late = 0;
        for (int k = 0; k < takes.length; k++) {
            late += late(k, HOURS - 1);
        }
        return late;
    }

    int goes(int hour) {
        return set(going(hour));
    }

    static int set(boolean[] which) {
        int set = 0;
        for (int k = 0; k < which.length; k++) {
            set += which[k] ? 1 << k : 0;
        }
        return set;
    }

    int all(int hour) {
        for (int h = hour; h < HOURS; h++) {
            if (goes(h) == set(hooked)) {
                return h;
            }
        }
        return NONE;
    }

    int alike(int hour) {
        for (int h = hour; h < HOURS; h++) {
            List<Integer> lates = new ArrayList<>();
            for (int k = 0; k < takes.length; k++) {
                if (hooked[k]) {
                    lates.add(late(k, h));
                }
            }
            if (lates.stream().distinct().count() < 2) {
                return h;
            }
        }
        return NONE;
    }

    /** Makes the hooked ones those of a set. */
    void hookJust(int set) {
        for (int k = 0; k < hooked.length; k++) {
            hooked[k] = (set >> k) % 2 == 1;
        }
    }

    int fewest(int k, int from, int to) {
        int now = set(hooked);
        int best = NONE;
        for (int others = 0; others < 1 << takes.length; others++) {
            boolean mayBe = hooked[k] && (others & ~now) == 0 && (others >> k) % 2 == 0;
            boolean fewer = best == NONE || Integer.bitCount(others) < Integer.bitCount(best);
            if (!mayBe || !fewer) {
                continue;
            }
            hookJust(now & ~others);
            boolean goes = true;
            for (int hour = from; hour <= to; hour++) {
                goes &= going(hour)[k];
            }
            hookJust(now);
            best = goes ? others : best;
        }
        return best;
    }

    int help(int v, int what) {
        int least = allLate();
        int best = NONE;
        for (int hour = 0; hour < HOURS; hour++) {
            storms.add(new int[] {hour, v});
            int late = allLate();
            storms.remove(storms.size() - 1);
            if (late < least) {
                least = late;
                best = hour;
            }
        }
        return what == 0 ? best : least;
    }

    int plan(int[] cells) {
        int now = set(hooked);
        int late = 0;
        for (int hour = 0; hour < HOURS; hour++) {
            for (int i = 0; i < cells.length; i += 2) {
                if (cells[i] == hour) {
                    hooked[cells[i + 1]] = !hooked[cells[i + 1]];
                }
            }
            late += Integer.bitCount(set(hooked)) - Integer.bitCount(goes(hour));
        }
        hookJust(now);
        return late;
    }

    private boolean fits() {
        for (int[] reading : readings) {
            if (late(reading[0], reading[1]) != reading[2]) {
                return false;
            }
        }
        return true;
    }

    int starts() {
        int was = start;
        int set = 0;
        for (start = 0; start < tides.length; start++) {
            set += fits() ? 1 << start : 0;
        }
        start = was;
        return set;
    }

    int laws() {
        int was = law;
        int set = 0;
        for (law = 0; law < 3; law++) {
            set += fits() ? 1 << law : 0;
        }
        law = was;
        return set;
    }

    int hung() {
        int set = 0;
        for (int k = 0; k < takes.length; k++) {
            takes[k]++;
            set += fits() ? 1 << k : 0;
            takes[k]--;
        }
        return set;
    }

    int freed() {
        int set = 0;
        for (int k = 0; k < takes.length; k++) {
            boolean was = hooked[k];
            hooked[k] = false;
            set += fits() ? 1 << k : 0;
            hooked[k] = was;
        }
        return set;
    }

    long odds(int k, int hour, int which) {
        int now = set(hooked);
        int lower = 1 << takes.length;
        int upper = 0;
        for (int set = 0; set < lower; set++) {
            hookJust(set);
            upper += going(hour)[k] ? 1 : 0;
        }
        hookJust(now);
        int common = java.math.BigInteger.valueOf(upper).gcd(java.math.BigInteger.valueOf(lower)).intValue();
        return (which == 0 ? upper : lower) / common;
    }
}
