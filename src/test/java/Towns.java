/** Ways in which the tests put texts and plans on sheets. */
final class Towns {
    static final int BYTES = 0, SHORTS = 1, INTS = 2;

    private Towns() {
    }

    /** A new object with a town by a text. */
    static TideWheels of(String text) {
        TideWheels x = new TideWheels();
        int works = tell(x, text);
        if (works < 1) {
            throw new IllegalStateException(text + " is not taken: " + works);
        }
        return x;
    }

    /** What town answers to a text, told on sheet 3, which has nothing afterwards. */
    static int tell(TideWheels x, String text) {
        x.sheet(3, BYTES, text.length());
        for (int i = 0; i < text.length(); i++) {
            x.put(3, i, text.charAt(i));
        }
        int answer = x.town(3, BYTES, 0, text.length());
        x.lose(3);
        return answer;
    }

    /** What plan answers to rows, told on sheet 3, which has nothing afterwards. */
    static int plan(TideWheels x, int... cells) {
        x.sheet(3, INTS, cells.length);
        for (int i = 0; i < cells.length; i++) {
            x.put(3, i, cells[i]);
        }
        int answer = x.plan(3, INTS, 0, cells.length / 2);
        x.lose(3);
        return answer;
    }

    /** Puts values into a sheet's cells from the first one on. */
    static void putAll(TideWheels x, int sheet, int... values) {
        for (int i = 0; i < values.length; i++) {
            x.put(sheet, i, values[i]);
        }
    }

    static String repeated(String part, int times) {
        return part.repeat(times);
    }
}
