/** The sentences of the document's part 5, promises 24 to 34, that name a boundary case: each has a test. */
public final class SheetEdgeTests implements Answers {
    private static final String THREE = "q,14;w3;b4;s2";
    private static final int MOST_CALLS = 512;

    private static final Due due = new Due("SheetEdgeTests");

    private SheetEdgeTests() {
    }

    public static void main(String[] args) {
        sheets();
        cells();
        copies();
        tellings();
        kinds();
        faultsAndCounts();
        theLastCall();
        due.end();
    }

    private static void sheets() {
        sheets0To3();
        nothingAtFirst();
        lanesOfSheets();
        sizesOfSheets();
        zeroAtFirst();
        aNewRow();
        loseAndLoseAgain();
    }

    private static void cells() {
        placesOfPut();
        putOnNothing();
        cutToBytes();
        cutToShorts();
        intsAreNotCut();
        placesOfCell();
        lanesOfCell();
        noNumberIsLost();
    }

    private static void copies() {
        sheetsOfCopies();
        copiesOfNothing();
        copiesOfUnlikeLanes();
        placesOfCopies();
        copiesOfNoCells();
        copiesAsTheyWere();
        copiesInsideOneSheet();
        copiesOnEachLane();
    }

    private static void tellings() {
        tellOfNoWork();
        tellOfKinds();
        ringOfNoWork();
        ringOfKinds();
        tellAndRingHookedOrNot();
        traceWraps();
    }

    private static void kinds() {
        asOfNoWork();
        asNoKind();
        asOneOfAKind();
        asHookedOrNot();
    }

    private static void faultsAndCounts() {
        faultAheadOfAny();
        faultOfTheLatestCall();
        manyWhats();
        manyWithoutTown();
    }

    // ---- sheets

    private static void sheets0To3() {
        due.in("SHEETS 0 .. 3: UNKNOWN");
        TideWheels x = new TideWheels();
        for (int k = 0; k < 4; k++) {
            due.is("sheet " + k, 1, x.sheet(k, 2, k));
            due.is("lose " + k, 1, x.lose(k));
            due.is("sheet " + k, 1, x.sheet(k, 2, 1));
            due.is("put " + k, 1, x.put(k, 0, 10 + k));
            due.is("cell " + k, 10 + k, x.cell(k, 0, 2));
        }
        for (int k : new int[] {-1, 4, LEAST, MOST}) {
            due.is("sheet " + k, UNKNOWN, x.sheet(k, 2, 1));
            due.is("sheet " + k + ", ahead of OUTSIDE", UNKNOWN, x.sheet(k, 3, 61));
            due.is("lose " + k, UNKNOWN, x.lose(k));
            due.is("put " + k, UNKNOWN, x.put(k, 0, 1));
            due.is("cell " + k, LOST, x.cell(k, 0, 2));
        }
        for (int k = 0; k < 4; k++) {
            due.is("cell " + k, 10 + k, x.cell(k, 0, 2));
        }
    }

    private static void nothingAtFirst() {
        due.in("SHEETS have nothing (at first)");
        for (int k = 0; k < 4; k++) {
            due.is("lose", 0, new TideWheels().lose(k));
            due.is("put", NULL, new TideWheels().put(k, 0, 0));
            due.is("cell", LOST, new TideWheels().cell(k, 0, 0));
            due.is("copy", NULL, new TideWheels().copy(k, 0, k, 0, 0));
            due.is("town", NULL, new TideWheels().town(k, 0, 0, 0));
        }
    }

    private static void lanesOfSheets() {
        due.in("promise 24: OUTSIDE: lane");
        TideWheels x = new TideWheels();
        for (int lane = 0; lane < 3; lane++) {
            due.is("lane " + lane, 1, x.sheet(0, lane, 1));
            due.is("cell", 0, x.cell(0, 0, lane));
            due.is("cell", LOST, x.cell(0, 0, (lane + 1) % 3));
        }
        for (int lane : new int[] {-1, 3, LEAST, MOST}) {
            due.is("lane " + lane, OUTSIDE, x.sheet(0, lane, 1));
            due.is("lane " + lane + ", ahead of SIZE", OUTSIDE, x.sheet(0, lane, -1));
        }
        due.is("cell", 0, x.cell(0, 0, 2));
    }

    private static void sizesOfSheets() {
        due.in("promise 24: OUTSIDE: n above 60; SIZE");
        TideWheels x = new TideWheels();
        due.is("n -1", SIZE, x.sheet(0, 0, -1));
        due.is("fault()", 4, x.fault());
        due.is("n least", SIZE, x.sheet(0, 0, LEAST));
        due.is("fault()", 4, x.fault());
        due.is("n 61", OUTSIDE, x.sheet(0, 0, 61));
        due.is("fault()", 0, x.fault());
        due.is("n most", OUTSIDE, x.sheet(0, 0, MOST));
        due.is("nothing yet", 0, x.lose(0));
        for (int n : new int[] {0, 1, 59, 60}) {
            due.is("n " + n, 1, x.sheet(0, 0, n));
            due.is("fault()", 0, x.fault());
            due.is("the last cell", n > 0 ? 1 : INDEX, x.put(0, n - 1, 1));
            due.is("one beyond", INDEX, x.put(0, n, 1));
        }
    }

    private static void zeroAtFirst() {
        due.in("a row of 0 .. 60 numbers (0 at first)");
        for (int lane = 0; lane < 3; lane++) {
            TideWheels x = new TideWheels();
            x.sheet(0, lane, 60);
            for (int i = 0; i < 60; i++) {
                due.is("lane " + lane + ", cell " + i, 0, x.cell(0, i, lane));
                x.put(0, i, 9);
            }
            x.sheet(0, lane, 60);
            for (int i = 0; i < 60; i++) {
                due.is("anew, lane " + lane + ", cell " + i, 0, x.cell(0, i, lane));
            }
        }
    }

    private static void aNewRow() {
        due.in("A SHEET gets a new row");
        TideWheels x = new TideWheels();
        x.sheet(0, 0, 5);
        x.sheet(1, 0, 5);
        x.put(0, 4, 9);
        x.put(1, 4, 8);
        due.is("of another lane, shorter", 1, x.sheet(0, 2, 2));
        due.is("the old lane", LOST, x.cell(0, 0, 0));
        due.is("the old lane is a CAST", 2, x.fault());
        due.is("the new lane", 0, x.cell(0, 1, 2));
        due.is("the old length", INDEX, x.put(0, 2, 1));
        due.is("the other sheet", 8, x.cell(1, 4, 0));
    }

    private static void loseAndLoseAgain() {
        due.in("promise 25: A SHEET has nothing: 1; 0: it had nothing");
        TideWheels x = new TideWheels();
        for (int k = 0; k < 4; k++) {
            x.sheet(k, 0, k);
        }
        for (int k = 0; k < 4; k++) {
            due.is("lose " + k, 1, x.lose(k));
            due.is("nothing", NULL, x.put(k, 0, 0));
            due.is("fault()", 1, x.fault());
            due.is("lose " + k + " again", 0, x.lose(k));
            due.is("the next has a row", k < 3 ? INDEX : UNKNOWN, x.put(k + 1, 9, 0));
        }
        due.is("fault() of a call that names none", 0, x.fault());
    }

    // ---- cells

    private static void placesOfPut() {
        due.in("promise 26: INDEX");
        TideWheels x = new TideWheels();
        x.sheet(0, 2, 3);
        for (int i = 0; i < 3; i++) {
            due.is("put " + i, 1, x.put(0, i, i + 5));
        }
        for (int i : new int[] {-1, 3, LEAST, MOST}) {
            due.is("put " + i, INDEX, x.put(0, i, 99));
            due.is("fault()", 3, x.fault());
        }
        for (int i = 0; i < 3; i++) {
            due.is("cell " + i, i + 5, x.cell(0, i, 2));
        }
        x.sheet(0, 2, 0);
        due.is("put 0 of none", INDEX, x.put(0, 0, 1));
    }

    private static void putOnNothing() {
        due.in("promise 26: UNKNOWN; NULL");
        TideWheels x = new TideWheels();
        due.is("put", NULL, x.put(0, 0, 1));
        due.is("fault()", 1, x.fault());
        due.is("NULL ahead of INDEX", NULL, x.put(0, -1, 1));
        due.is("UNKNOWN ahead of NULL", UNKNOWN, x.put(4, -1, 1));
        due.is("fault()", 0, x.fault());
        due.is("still nothing", 0, x.lose(0));
    }

    private static void comesAs(int lane, int[] values, int[] cells) {
        TideWheels x = new TideWheels();
        x.sheet(0, lane, 3);
        for (int v = 0; v < values.length; v++) {
            due.is("put " + values[v], 1, x.put(0, 1, values[v]));
            due.is("comes as", cells[v], x.cell(0, 1, lane));
        }
        due.is("the cell ahead", 0, x.cell(0, 0, lane));
        due.is("the cell behind", 0, x.cell(0, 2, lane));
    }

    private static void cutToBytes() {
        due.in("what comes to a cell of it is cut to its LANE (with its sign): bytes");
        int[] values = {0, 1, -1, 127, 128, -128, -129, 255, 256, 257, -256, 32768, 65535, 65536 + 130, MOST, LEAST};
        int[] cells = {0, 1, -1, 127, -128, -128, 127, -1, 0, 1, 0, 0, -1, -126, -1, 0};
        comesAs(0, values, cells);
    }

    private static void cutToShorts() {
        due.in("what comes to a cell of it is cut to its LANE (with its sign): shorts");
        int[] values = {0, 1, -1, 127, 128, -129, 255, 32767, 32768, -32768, -32769, 65535, 65536, 65537, MOST, LEAST};
        int[] cells = {0, 1, -1, 127, 128, -129, 255, 32767, -32768, -32768, 32767, -1, 0, 1, -1, 0};
        comesAs(1, values, cells);
    }

    private static void intsAreNotCut() {
        due.in("what comes to a cell of it is cut to its LANE (with its sign): ints");
        int[] values = {0, 1, -1, 128, 32768, -32769, 65536, MOST, LEAST};
        comesAs(2, values, values);
    }

    private static void placesOfCell() {
        due.in("promise 27: INDEX");
        TideWheels x = new TideWheels();
        x.sheet(0, 1, 60);
        x.put(0, 0, 4);
        x.put(0, 59, 5);
        due.is("the first", 4, x.cell(0, 0, 1));
        due.is("the last", 5, x.cell(0, 59, 1));
        due.is("fault()", 0, x.fault());
        for (int i : new int[] {-1, 60, LEAST, MOST}) {
            due.is("cell " + i, LOST, x.cell(0, i, 1));
            due.is("fault()", 3, x.fault());
        }
        x.sheet(0, 1, 0);
        due.is("cell 0 of none", LOST, x.cell(0, 0, 1));
        due.is("fault()", 3, x.fault());
    }

    private static void lanesOfCell() {
        due.in("promise 27: LOST: UNKNOWN, OUTSIDE: lane; FAULTS CAST (nothing is no CAST), NULL");
        TideWheels x = new TideWheels();
        for (int lane = 0; lane < 3; lane++) {
            x.sheet(lane, lane, 1);
            for (int as = 0; as < 3; as++) {
                due.is(lane + " as " + as, as == lane ? 0 : LOST, x.cell(lane, 0, as));
                due.is("fault()", as == lane ? 0 : 2, x.fault());
                due.is(lane + " as " + as + ", beyond", LOST, x.cell(lane, 1, as));
                due.is("fault()", as == lane ? 3 : 2, x.fault());
            }
            due.is("nothing", LOST, x.cell(3, 0, lane));
            due.is("fault()", 1, x.fault());
        }
        for (int lane : new int[] {-1, 3, LEAST, MOST}) {
            x.put(3, 0, 0);
            due.is("lane " + lane, LOST, x.cell(0, 0, lane));
            due.is("fault()", 0, x.fault());
            due.is("lane " + lane + " of nothing", LOST, x.cell(3, 0, lane));
            due.is("fault()", 0, x.fault());
        }
    }

    private static void noNumberIsLost() {
        due.in("promise 27: what a cell has is never LOST");
        TideWheels x = new TideWheels();
        x.sheet(0, 2, 1);
        x.put(0, 0, LEAST);
        due.is("least", -2147483648L, x.cell(0, 0, 2));
        x.put(0, 0, MOST);
        due.is("most", 2147483647L, x.cell(0, 0, 2));
    }

    // ---- copies

    private static TideWheels withRows(int lane, int n, int m) {
        TideWheels x = new TideWheels();
        x.sheet(0, lane, n);
        x.sheet(1, lane, m);
        for (int i = 0; i < n; i++) {
            x.put(0, i, i + 1);
        }
        for (int i = 0; i < m; i++) {
            x.put(1, i, -i - 1);
        }
        return x;
    }

    private static void cellsAre(TideWheels x, int k, int lane, int... cells) {
        for (int i = 0; i < cells.length; i++) {
            due.is("sheet " + k + ", cell " + i, cells[i], x.cell(k, i, lane));
        }
    }

    private static void sheetsOfCopies() {
        due.in("promise 28: UNKNOWN");
        TideWheels x = withRows(2, 2, 2);
        for (int k : new int[] {-1, 4, LEAST, MOST}) {
            due.is("from " + k, UNKNOWN, x.copy(k, 0, 1, 0, 1));
            due.is("to " + k, UNKNOWN, x.copy(0, 0, k, 0, 1));
            due.is("to " + k + ", from nothing", UNKNOWN, x.copy(2, 0, k, 0, 1));
            due.is("from " + k + ", to nothing", UNKNOWN, x.copy(k, 0, 2, 0, 1));
            due.is("both " + k, UNKNOWN, x.copy(k, -1, k, 0, 1));
            due.is("fault()", 0, x.fault());
        }
        for (int k = 0; k < 4; k++) {
            x.sheet(k, 0, 1);
            due.is("to and from " + k, 1, x.copy(k, 0, k, 0, 1));
        }
    }

    private static void copiesOfNothing() {
        due.in("promise 28: NULL (the first, the other)");
        TideWheels x = withRows(2, 2, 2);
        due.is("the first", NULL, x.copy(2, 0, 0, 0, 0));
        due.is("fault()", 1, x.fault());
        due.is("the other", NULL, x.copy(0, 0, 2, 0, 0));
        due.is("both", NULL, x.copy(2, 0, 3, 0, 0));
        due.is("the same", NULL, x.copy(2, 0, 2, 0, 0));
        due.is("the first, ahead of INDEX", NULL, x.copy(2, -1, 0, -1, -1));
        due.is("the other, ahead of INDEX", NULL, x.copy(0, -1, 2, -1, -1));
        due.is("fault()", 1, x.fault());
    }

    private static void copiesOfUnlikeLanes() {
        due.in("promise 28: CAST (unlike LANES)");
        TideWheels x = new TideWheels();
        for (int lane = 0; lane < 3; lane++) {
            x.sheet(lane, lane, 1);
            x.put(lane, 0, 5 + lane);
        }
        for (int from = 0; from < 3; from++) {
            for (int to = 0; to < 3; to++) {
                due.is("from " + from + " to " + to, from == to ? 1 : CAST, x.copy(from, 0, to, 0, 1));
                due.is("fault()", from == to ? 0 : 2, x.fault());
                due.is("no cells", from == to ? 0 : CAST, x.copy(from, 0, to, 0, 0));
                due.is("ahead of INDEX", from == to ? INDEX : CAST, x.copy(from, -1, to, -1, -1));
            }
        }
        for (int lane = 0; lane < 3; lane++) {
            due.is("cell", 5 + lane, x.cell(lane, 0, lane));
        }
    }

    private static void placesOfCopies() {
        due.in("promise 28: INDEX: i, j, n below 0 or beyond");
        TideWheels x = withRows(2, 5, 3);
        int[][] wrong = {{-1, 0, 1}, {0, -1, 1}, {0, 0, -1}, {-1, 0, 0}, {0, -1, 0}, {6, 0, 0}, {0, 4, 0}, {5, 0, 1},
            {0, 3, 1}, {0, 0, 4}, {3, 0, 3}, {0, 1, 3}, {4, 0, 2}, {5, 3, -1}, {MOST, 0, 1}, {0, MOST, 1}, {0, 0, MOST},
            {1, 0, MOST}, {0, 1, MOST}, {1, 1, MOST}, {LEAST, 0, 1}, {0, LEAST, 1}, {0, 0, LEAST}, {MOST, MOST, MOST},
            {LEAST, LEAST, LEAST}, {MOST, MOST, LEAST}};
        for (int[] ijn : wrong) {
            due.is("i " + ijn[0] + ", j " + ijn[1] + ", n " + ijn[2], INDEX, x.copy(0, ijn[0], 1, ijn[1], ijn[2]));
            due.is("fault()", 3, x.fault());
        }
        due.is("more than the first has", INDEX, x.copy(1, 0, 0, 0, 4));
        cellsAre(x, 0, 2, 1, 2, 3, 4, 5);
        cellsAre(x, 1, 2, -1, -2, -3);
        due.is("all that the other takes", 3, x.copy(0, 2, 1, 0, 3));
        due.is("fault()", 0, x.fault());
        cellsAre(x, 1, 2, 3, 4, 5);
        due.is("all that the first has", 3, x.copy(1, 0, 0, 2, 3));
        cellsAre(x, 0, 2, 1, 2, 3, 4, 5);
    }

    private static void copiesOfNoCells() {
        due.in("promise 28: none of them is taken");
        TideWheels x = withRows(2, 5, 3);
        due.is("at the start", 0, x.copy(0, 0, 1, 0, 0));
        due.is("at both ends", 0, x.copy(0, 5, 1, 3, 0));
        due.is("fault()", 0, x.fault());
        due.is("beyond the first's end", INDEX, x.copy(0, 6, 1, 3, 0));
        due.is("beyond the other's end", INDEX, x.copy(0, 5, 1, 4, 0));
        cellsAre(x, 0, 2, 1, 2, 3, 4, 5);
        cellsAre(x, 1, 2, -1, -2, -3);
        x = withRows(2, 0, 0);
        due.is("of none, to none", 0, x.copy(0, 0, 1, 0, 0));
        due.is("one of none", INDEX, x.copy(0, 0, 1, 0, 1));
    }

    private static void copiesAsTheyWere() {
        due.in("n cells of a SHEET from i on go to another one from j on, as they were: n");
        TideWheels x = withRows(1, 5, 5);
        due.is("one", 1, x.copy(0, 4, 1, 0, 1));
        cellsAre(x, 1, 1, 5, -2, -3, -4, -5);
        due.is("two", 2, x.copy(0, 0, 1, 3, 2));
        cellsAre(x, 1, 1, 5, -2, -3, 1, 2);
        cellsAre(x, 0, 1, 1, 2, 3, 4, 5);
        x.put(0, 0, 77);
        due.is("the copy stays", 1, x.cell(1, 3, 1));
        x.put(1, 4, 78);
        due.is("the first stays", 2, x.cell(0, 1, 1));
        x = withRows(0, 60, 60);
        due.is("sixty", 60, x.copy(0, 0, 1, 0, 60));
        for (int i = 0; i < 60; i++) {
            due.is("cell " + i, i + 1, x.cell(1, i, 0));
        }
    }

    private static void copiesInsideOneSheet() {
        due.in("promise 28: (perhaps the same)");
        TideWheels x = withRows(2, 5, 0);
        due.is("one place up", 4, x.copy(0, 0, 0, 1, 4));
        cellsAre(x, 0, 2, 1, 1, 2, 3, 4);
        x = withRows(2, 5, 0);
        due.is("one place down", 4, x.copy(0, 1, 0, 0, 4));
        cellsAre(x, 0, 2, 2, 3, 4, 5, 5);
        x = withRows(2, 5, 0);
        due.is("in its place", 5, x.copy(0, 0, 0, 0, 5));
        cellsAre(x, 0, 2, 1, 2, 3, 4, 5);
        due.is("two places up", 3, x.copy(0, 0, 0, 2, 3));
        cellsAre(x, 0, 2, 1, 2, 1, 2, 3);
        due.is("beyond", INDEX, x.copy(0, 0, 0, 2, 4));
        cellsAre(x, 0, 2, 1, 2, 1, 2, 3);
    }

    private static void copiesOnEachLane() {
        due.in("promise 28: cells as they were, by LANES");
        int[] least = {-128, -32768, LEAST};
        for (int lane = 0; lane < 3; lane++) {
            TideWheels x = withRows(lane, 2, 2);
            x.put(0, 0, least[lane]);
            x.put(0, 1, least[lane] - 1);
            due.is("lane " + lane, 2, x.copy(0, 0, 1, 0, 2));
            cellsAre(x, 1, lane, least[lane], -1 - least[lane]);
        }
    }

    // ---- tellings

    private static void tellOfNoWork() {
        due.in("promise 29: UNKNOWN");
        TideWheels x = Towns.of(THREE);
        for (int k : new int[] {-1, 3, LEAST, MOST}) {
            due.is("tell " + k, UNKNOWN, x.tell(k));
        }
        due.is("trace()", 0, x.trace());
        due.is("without a town", UNKNOWN, new TideWheels().tell(0));
        due.is("the first", 3, x.tell(0));
        due.is("the last", 2 + 100 + 2, x.tell(2));
    }

    private static void tellOfKinds() {
        due.in("WORK (1): its WEIGHT. BARNACLED (2): and 100. SAINT (3): and what WORK's gives");
        for (int weight = 1; weight <= 9; weight++) {
            String text = "q,00;w" + weight + ";b" + weight + ";s" + weight;
            int[] answers = {weight, weight + 100, 2 * weight + 100};
            int[] traces = {1, 31 * 2 + 1, 31 * (31 * (31 * 3 + 2) + 1) + 1};
            for (int k = 0; k < 3; k++) {
                TideWheels x = Towns.of(text);
                x.hook(k, weight % 2 == 0);
                due.is("tell " + k + " of " + text, answers[k], x.tell(k));
                due.is("trace()", traces[k], x.trace());
            }
        }
    }

    private static void ringOfNoWork() {
        due.in("promise 30: UNKNOWN");
        TideWheels x = Towns.of(THREE);
        for (int k : new int[] {-1, 3, LEAST, MOST}) {
            due.is("ring " + k, UNKNOWN, x.ring(k));
        }
        due.is("trace()", 0, x.trace());
        due.is("without a town", UNKNOWN, new TideWheels().ring(0));
    }

    private static void ringOfKinds() {
        due.in("RUNG by a lent body (4): the WORK's number; SAINTS have their own (5): 30");
        for (int n = 1; n <= 8; n++) {
            for (int kind = 0; kind < 3; kind++) {
                TideWheels x = Towns.of("q,00" + Towns.repeated(";w9", n - 1) + ";" + "wbs".charAt(kind) + "7");
                due.is("the last of " + n + ", kind " + kind, kind == 2 ? 30 : n - 1, x.ring(n - 1));
                due.is("trace()", kind == 2 ? 5 : 4, x.trace());
            }
        }
    }

    private static void tellAndRingHookedOrNot() {
        due.in("promises 29, 30: HOOKED or not");
        for (int k = 0; k < 3; k++) {
            TideWheels hooked = Towns.of(THREE);
            TideWheels x = Towns.of(THREE);
            due.is("unhook " + k, 1, x.hook(k, false));
            due.is("tell " + k, hooked.tell(k), x.tell(k));
            due.is("ring " + k, hooked.ring(k), x.ring(k));
            due.is("trace()", hooked.trace(), x.trace());
            due.is("still not hooked", 0, x.ofWork(k, 3));
        }
    }

    private static void traceWraps() {
        due.in("an int that wraps, 0 at first, becomes 31 times it and the number");
        TideWheels x = Towns.of(THREE);
        due.is("at first", 0, x.trace());
        long exact = 0;
        int sum = 0;
        for (int t = 0; t < 60; t++) {
            x.ring(t % 3);
            int number = t % 3 == 2 ? 5 : 4;
            sum = 31 * sum + number;
            exact = Math.min(1L << 40, 31 * exact + number);
            due.is("after " + (t + 1), sum, x.trace());
            due.is("as exactly", exact <= MOST ? exact : sum, x.trace());
        }
        due.is("far beyond", 1L << 40, exact);
    }

    // ---- kinds

    private static void asOfNoWork() {
        due.in("promise 31: UNKNOWN");
        TideWheels x = Towns.of(THREE);
        for (int k : new int[] {-1, 3, LEAST, MOST}) {
            due.is("as " + k, UNKNOWN, x.as(k, 0));
            due.is("UNKNOWN ahead of OUTSIDE", UNKNOWN, x.as(k, 3));
            due.is("fault()", 0, x.fault());
        }
        due.is("without a town", UNKNOWN, new TideWheels().as(0, 0));
    }

    private static void asNoKind() {
        due.in("promise 31: OUTSIDE");
        TideWheels x = Towns.of(THREE);
        for (int kind : new int[] {-1, 3, LEAST, MOST}) {
            for (int k = 0; k < 3; k++) {
                x.as(0, 2);
                due.is("as kind " + kind, OUTSIDE, x.as(k, kind));
                due.is("fault()", 0, x.fault());
            }
        }
    }

    private static void asOneOfAKind() {
        due.in("promise 31: 1; CAST: it is none");
        TideWheels x = Towns.of(THREE);
        int[][] answers = {{1, CAST, CAST}, {1, 1, CAST}, {1, 1, 1}};
        for (int k = 0; k < 3; k++) {
            for (int kind = 0; kind < 3; kind++) {
                due.is("as(" + k + ", " + kind + ")", answers[k][kind], x.as(k, kind));
                due.is("fault()", answers[k][kind] == 1 ? 0 : 2, x.fault());
            }
        }
    }

    private static void asHookedOrNot() {
        due.in("promise 31: HOOKED or not");
        TideWheels x = Towns.of(THREE);
        for (int k = 0; k < 3; k++) {
            x.hook(k, false);
            for (int kind = 0; kind < 3; kind++) {
                due.is("as(" + k + ", " + kind + ")", kind <= k ? 1 : CAST, x.as(k, kind));
            }
            due.is("still not hooked", 0, x.ofWork(k, 3));
        }
    }

    // ---- faults and counts

    private static void faultAheadOfAny() {
        due.in("promise 33: 0 ahead of any");
        due.is("fault()", 0, new TideWheels().fault());
        TideWheels x = Towns.of(THREE);
        due.is("fault()", 0, x.fault());
        x.tell(9);
        due.is("fault()", 0, x.fault());
    }

    private static void faultOfTheLatestCall() {
        due.in("promise 33: The FAULT of the latest call that names one: 0: it came to none, or was refused");
        TideWheels x = Towns.of(THREE);
        x.sheet(0, 0, 2);
        x.sheet(1, 1, 2);
        x.put(3, 0, 0);
        due.is("NULL", 1, x.fault());
        x.copy(0, 0, 1, 0, 0);
        due.is("CAST", 2, x.fault());
        x.put(0, 2, 0);
        due.is("INDEX", 3, x.fault());
        x.town(0, 0, 0, -1);
        due.is("SIZE", 4, x.fault());
        due.is("asked again", 4, x.fault());
        x.put(0, 0, 0);
        due.is("it came to none", 0, x.fault());
        x.as(0, 2);
        due.is("CAST", 2, x.fault());
        x.sheet(0, 0, 61);
        due.is("was refused", 0, x.fault());
        x.sheet(2, 0, -1);
        due.is("SIZE", 4, x.fault());
        due.is("a first fault of a text", -100, x.town(0, 0, 0, 0));
        due.is("it came to none", 0, x.fault());
        x.plan(0, 0, 3, 0);
        due.is("INDEX", 3, x.fault());
        due.is("a plan of no rows", x.help(0, 1), x.plan(0, 0, 2, 0));
        due.is("it came to none", 0, x.fault());
    }

    private static void manyWhats() {
        due.in("promise 34: OUTSIDE");
        TideWheels x = Towns.of("q,01,02,03,04,05,06;w1;w1;w1;w1;w1;w1;w1;w1");
        for (int r = 0; r < 9; r++) {
            x.storm(0, 0);
            x.reading(0, 0, 0);
        }
        x.law(2);
        x.start(5);
        int[] counts = {8, 6, 6, 8, 2, 5};
        for (int what = 0; what < 6; what++) {
            due.is("many " + what, counts[what], x.many(what));
        }
        for (int what : new int[] {-1, 6, LEAST, MOST}) {
            due.is("many " + what, OUTSIDE, x.many(what));
        }
    }

    private static void manyWithoutTown() {
        due.in("promise 34: 0 all without a TOWN");
        TideWheels x = new TideWheels();
        due.is("not taken", -100, Towns.tell(x, "x"));
        for (int what = 0; what < 6; what++) {
            due.is("many " + what, 0, x.many(what));
        }
        for (int what : new int[] {-1, 6, LEAST, MOST}) {
            due.is("many " + what, OUTSIDE, x.many(what));
        }
    }

    // ---- an object's calls

    private static void theLastCall() {
        due.in("An object is used for at most 512 calls");
        TideWheels x = new TideWheels();
        for (int c = 1; c < MOST_CALLS; c++) {
            due.is("call " + c, 1, x.sheet(c % 4, c % 3, 60));
        }
        due.is("the last call", 0, x.cell(3, 59, 511 % 3));
        x = Towns.of("q,00;s9");
        for (int c = 1; c < 400; c++) {
            x.tell(0);
        }
        int sum = 0;
        for (int c = 1; c < 400; c++) {
            sum = (((sum * 31 + 3) * 31 + 2) * 31 + 1) * 31 + 1;
        }
        due.is("the trace of many", sum, x.trace());
    }
}
