/** Towns of many kinds, each call's answer beside that of PlainTown. */
public final class ModelTests {
    private static final int TOWNS = 600;
    private static final String LETTERS = "wbs";

    private static final Due due = new Due("ModelTests");
    private static long seed = 20261118;

    private ModelTests() {
    }

    public static void main(String[] args) {
        for (int t = 0; t < TOWNS; t++) {
            oneTown(t);
        }
        due.end();
    }

    /** A number 0 .. n - 1; the same ones in each run. */
    private static int next(int n) {
        seed = seed * 6364136223846793005L + 1442695040888963407L;
        return (int) ((seed >>> 33) % n);
    }

    private static void oneTown(int t) {
        int[] tides = new int[1 + next(6)];
        int[] takes = new int[1 + next(8)];
        StringBuilder text = new StringBuilder("q");
        int most = 1 + next(60);
        for (int i = 0; i < tides.length; i++) {
            tides[i] = next(most);
            text.append(',').append(tides[i] / 10).append(tides[i] % 10);
        }
        int heaviest = 1 + next(9);
        for (int k = 0; k < takes.length; k++) {
            int kind = next(3);
            int weight = 1 + next(heaviest);
            takes[k] = kind == 0 ? weight : kind == 1 ? weight + 1 : 2 * (weight + 1);
            text.append(';').append(LETTERS.charAt(kind)).append(weight);
        }
        due.in("town " + t + ", " + text);
        TideWheels x = new TideWheels();
        due.is("town", takes.length, Towns.tell(x, text.toString()));
        PlainTown plain = new PlainTown(tides, takes);
        for (int round = 0; round < 3; round++) {
            changeBoth(x, plain);
            compareHours(x, plain);
            compareHooks(x, plain);
            compareReadings(x, plain);
        }
    }

    private static void changeBoth(TideWheels x, PlainTown plain) {
        int law = next(3);
        due.is("law", plain.law, x.law(law));
        plain.law = law;
        int start = next(plain.tides.length);
        due.is("start", plain.start, x.start(start));
        plain.start = start;
        int k = next(plain.takes.length);
        boolean is = next(3) > 0;
        due.is("hook", plain.hooked[k] == is ? 0 : 1, x.hook(k, is));
        plain.hooked[k] = is;
        int hour = next(60);
        int v = next(119) - 59;
        due.is("storm", plain.storms.size(), x.storm(hour, v));
        plain.storms.add(new int[] {hour, v});
        if (next(4) == 0) {
            due.is("calm", plain.storms.size() - 1, x.calm(1));
            plain.storms.remove(plain.storms.size() - 1);
        }
    }

    private static void compareHours(TideWheels x, PlainTown plain) {
        int hour = next(60);
        int k = next(plain.takes.length);
        due.is("strength " + hour, plain.strength(hour), x.strength(hour));
        due.is("goes " + hour, plain.goes(hour), x.goes(hour));
        due.is("late " + k + ", " + hour, plain.late(k, hour), x.late(k, hour));
        due.is("all " + hour, plain.all(hour), x.all(hour));
        due.is("all 0", plain.all(0), x.all(0));
        due.is("alike " + hour, plain.alike(hour), x.alike(hour));
        due.is("alike 0", plain.alike(0), x.alike(0));
        due.is("odds", plain.odds(k, hour, 0), x.odds(k, hour, 0));
        due.is("odds", plain.odds(k, hour, 1), x.odds(k, hour, 1));
    }

    private static void compareHooks(TideWheels x, PlainTown plain) {
        int k = next(plain.takes.length);
        int from = next(60);
        int to = from + next(Math.min(60 - from, 1 + next(60)));
        due.is("fewest " + k + ", " + from + ", " + to, plain.fewest(k, from, to), x.fewest(k, from, to));
        int v = next(119) - 59;
        due.is("help " + v, plain.help(v, 0), x.help(v, 0));
        due.is("help " + v, plain.help(v, 1), x.help(v, 1));
        int[] cells = new int[2 * next(31)];
        int hour = 0;
        for (int i = 0; i < cells.length; i += 2) {
            hour = Math.min(59, hour + next(5));
            cells[i] = hour;
            cells[i + 1] = next(plain.takes.length);
        }
        due.is("plan", plain.plan(cells), Towns.plan(x, cells));
    }

    private static void compareReadings(TideWheels x, PlainTown plain) {
        int k = next(plain.takes.length);
        int hour = next(60);
        int late = next(3) == 0 ? next(61) : plain.late(k, hour);
        due.is("reading", plain.readings.size(), x.reading(k, hour, late));
        plain.readings.add(new int[] {k, hour, late});
        due.is("starts", plain.starts(), x.starts());
        due.is("laws", plain.laws(), x.laws());
        due.is("hung", plain.hung(), x.hung());
        due.is("freed", plain.freed(), x.freed());
        if (next(3) == 0) {
            due.is("back", plain.readings.size() - 1, x.back(1));
            plain.readings.remove(plain.readings.size() - 1);
        }
    }
}
