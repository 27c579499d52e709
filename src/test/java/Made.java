/** Objects in the states in which the tests look at what a call leaves as it was. */
final class Made {
    private Made() {
    }

    /** Sheets 0 to 2 of each lane, with rows of 5 cells; sheet 3 has nothing. */
    static TideWheels withoutATown() {
        TideWheels x = new TideWheels();
        putRows(x);
        return x;
    }

    private static void putRows(TideWheels x) {
        for (int lane = 0; lane < 3; lane++) {
            x.sheet(lane, lane, 5);
            Towns.putAll(x, lane, 5, 0, 4, 1, lane);
        }
    }

    static TideWheels withATown() {
        TideWheels x = Towns.of("q,14,09,05;w3;b4;s2;w1");
        putRows(x);
        x.tell(2);
        x.law(1);
        x.start(1);
        x.hook(3, false);
        for (int s = 0; s < 3; s++) {
            x.storm(s, 2 - 3 * s);
        }
        for (int r = 0; r < 3; r++) {
            x.reading(r, r, x.late(r, r));
        }
        return x;
    }

    /** As many storms and readings as there may be. */
    static TideWheels withAFullTown() {
        TideWheels x = withATown();
        for (int s = 3; s < 6; s++) {
            x.storm(0, s);
        }
        for (int r = 3; r < 8; r++) {
            x.reading(0, 40 + r, x.late(0, 40 + r) + r / 7);
        }
        return x;
    }
}
