/** 1 THE TABLE, Promises 1 to 6. */
final class TableEdges {
    private static final int N = -100, NONE = -1, BAD = -2, FULL = -4, NO_CELL = -1000;
    private static final int MOST = Integer.MAX_VALUE, LEAST = Integer.MIN_VALUE;
    private static final int[] NO_VALUES = {10, -10, -99, -101, 100, MOST, LEAST};
    private static final int[] NO_COLUMNS = {-1, 3, MOST, LEAST};
    private static final int[] NO_SHEETS = {-1, 4, MOST, LEAST};

    /** ROWS that RICH has not; three times the last two wraps to an item that there is. */
    private static final int[] NO_ROWS = {-1, 4, 8, MOST, LEAST, 1431655766, -1431655765};

    private TableEdges() {
    }

    static void addTo(Edges edges) {
        edges.at("1 THE TABLE");
        edges.add("THE TABLE has up to 8 ROWS (0 on)", TableEdges::eightRows);
        edges.add("of three COLUMNS a, b, c (0 to 2)", TableEdges::threeColumns);
        edges.add("numbers -9 to 9", TableEdges::numbers);
        edges.add("or NOTHING (told as -100).", TableEdges::nothing);
        edges.add("An object is used for at most 512 calls after it has been made; what later calls answer is free.",
                TableEdges::lastCall);
        edges.at("Promise 1");
        edges.add("An empty TABLE", TableEdges::newTable);
        edges.add("empty TEXTS", TableEdges::newTexts);
        edges.add("all SHEETS are LOST.", TableEdges::newSheets);
        edges.add("An empty TABLE, empty TEXTS; all SHEETS are LOST.", TableEdges::newBesideOther);
        edges.at("Promise 2");
        edges.add("A ROW more: its number.", TableEdges::rowMore);
        edges.add("BAD", TableEdges::rowBad);
        edges.add("FULL.", TableEdges::rowFull);
        edges.add("BAD; FULL.", TableEdges::rowOrder);
        edges.at("Promise 3");
        edges.add("ROWS more, of a SHEET: its items, three for each", TableEdges::readItems);
        edges.add("as many as are whole", TableEdges::readWhole);
        edges.add("as long as each may be", TableEdges::readEach);
        edges.add("and there is room", TableEdges::readRoom);
        edges.add("how many came.", TableEdges::readCame);
        edges.add("BAD", TableEdges::readBad);
        edges.add("NULL.", TableEdges::readNull);
        edges.at("Promise 4");
        edges.add("What a ROW has in a COLUMN (-100: NOTHING).", TableEdges::at);
        edges.add("BAD: -1000.", TableEdges::atBad);
        edges.at("Promise 5");
        edges.add("A COLUMN of a ROW becomes v: what it was.", TableEdges::put);
        edges.add("BAD: -1000.", TableEdges::putBad);
        edges.at("Promise 6");
        edges.add("THE TABLE is empty: how many ROWS it had.", TableEdges::empty);
    }

    private static void eightRows(Check check) {
        GrownAsks x = new GrownAsks();
        for (int i = 0; i < 8; i++) check.due("row " + i, x.row(i, 0, 0), i);
        check.due("row 8", x.row(8, 0, 0), FULL);
        for (int i = 0; i < 8; i++) check.due("at(" + i + ", 0)", x.at(i, 0), i);
        check.due("at(8, 0)", x.at(8, 0), NO_CELL);
        check.due("at(-1, 0)", x.at(-1, 0), NO_CELL);
        check.due("rows", x.count(0), 8);
    }

    private static void threeColumns(Check check) {
        GrownAsks x = Check.with("&=a1&=b2=c3");
        x.row(1, 2, 3);
        for (int column = 0; column < 3; column++) check.due("at(0, " + column + ")", x.at(0, column), column + 1);
        check.due("a, b, c", x.meant(0), 1);
        check.due("at(0, 3)", x.at(0, 3), NO_CELL);
        check.due("at(0, -1)", x.at(0, -1), NO_CELL);
        check.due("there is no d", Check.with("=d").fault(0), 1);
    }

    /** What becomes of a ROW with v in one COLUMN, by row() and by put(). */
    private static void comes(Check check, int v, boolean may) {
        for (int column = 0; column < 3; column++) {
            GrownAsks x = new GrownAsks();
            check.due("row with " + v, x.row(column == 0 ? v : 1, column == 1 ? v : 1, column == 2 ? v : 1),
                    may ? 0 : BAD);
            check.due("it has " + v, x.at(0, column), may ? v : NO_CELL);
            GrownAsks y = new GrownAsks();
            y.row(1, 1, 1);
            check.due("put " + v, y.put(0, column, v), may ? 1 : NO_CELL);
            check.due("it has " + v, y.at(0, column), may ? v : 1);
        }
    }

    private static void numbers(Check check) {
        for (int v = -12; v <= 12; v++) comes(check, v, v >= -9 && v <= 9);
        comes(check, 256, false);
        comes(check, MOST, false);
        comes(check, LEAST, false);
    }

    private static void nothing(Check check) {
        for (int v = -102; v <= -98; v++) comes(check, v, v == N);
        comes(check, 100, false);
        comes(check, 156, false);
        GrownAsks x = Check.with("?=bb");
        x.row(0, N, 0);
        check.due("it is NOTHING", x.meant(0), 1);
        check.due("NOTHINGS", x.count(6), 1);
    }

    private static void lastCall(Check check) {
        GrownAsks x = new GrownAsks();
        for (int i = 0; i < 126; i++) {
            check.due("empty", x.empty(), i == 0 ? 0 : 1);
            check.due("row", x.row(i % 10, 0, 0), 0);
            check.due("type", x.type(1, 60), 1);
            check.due("wipe", x.wipe(1), 1);
        }
        for (int i = 0; i < 7; i++) check.due("type", x.type(0, i), i + 1);
        check.due("the 512th call", x.count(1), 7);
    }

    private static void newTable(Check check) {
        GrownAsks x = new GrownAsks();
        check.due("rows", x.count(0), 0);
        check.due("nothings", x.count(6), 0);
        check.due("at(0, 0)", x.at(0, 0), NO_CELL);
        check.due("empty()", x.empty(), 0);
        check.due("the first row", x.row(0, 0, 0), 0);
    }

    private static void newTexts(Check check) {
        GrownAsks x = new GrownAsks();
        for (int text = 0; text < 2; text++) {
            check.due("bytes of " + text, x.count(1 + text), 0);
            check.due("fault of " + text, x.fault(text), 0);
            check.due("byte 0 of " + text, x.byteOf(text, 0), NONE);
            check.due("wipe " + text, x.wipe(text), 0);
        }
    }

    private static void newSheets(Check check) {
        for (int s = 0; s < 4; s++) {
            GrownAsks x = new GrownAsks();
            check.due("no finding yet", x.count(8), 0);
            check.due("get of " + s, x.get(s, 0, 0), Long.MIN_VALUE);
            check.due("it is LOST", x.count(8), State.NULL);
            check.due("lose " + s, x.lose(s), -11);
        }
    }

    private static void newBesideOther(Check check) {
        String none = State.told(new GrownAsks());
        for (State other : State.values()) {
            GrownAsks x = other.make(State.SIZE);
            GrownAsks y = new GrownAsks();
            check.isTrue("a new one beside " + other, State.told(y).equals(none));
            check.due("finding of a new one", new GrownAsks().count(8), 0);
            x.empty();
        }
        check.due("RULES", new GrownAsks().count(3), 255);
        check.due("FAULTS", new GrownAsks().count(4), 0);
        check.due("LEARNT", new GrownAsks().count(5), 0);
    }

    private static void rowMore(Check check) {
        GrownAsks x = new GrownAsks();
        check.due("the first", x.row(-9, N, 9), 0);
        check.due("the second", x.row(9, 0, -9), 1);
        check.due("the one like it", x.row(9, 0, -9), 2);
        int[] due = {-9, N, 9, 9, 0, -9, 9, 0, -9};
        for (int i = 0; i < 9; i++) check.due("at", x.at(i / 3, i % 3), due[i]);
        x.empty();
        check.due("the first again", x.row(1, 1, 1), 0);
        check.due("at", x.at(0, 0), 1);
    }

    private static void rowBad(Check check) {
        for (int v : NO_VALUES) {
            check.refuses(State.RICH, "row(" + v + ", 0, 0)", x -> x.row(v, 0, 0), BAD);
            check.refuses(State.RICH, "row(0, " + v + ", 0)", x -> x.row(0, v, 0), BAD);
            check.refuses(State.RICH, "row(0, 0, " + v + ")", x -> x.row(0, 0, v), BAD);
        }
    }

    private static void rowFull(Check check) {
        check.refuses(State.FULL, "row(0, 0, 0)", x -> x.row(0, 0, 0), FULL);
        GrownAsks x = State.FULL.make(0);
        x.empty();
        check.due("room again", x.row(0, 0, 0), 0);
    }

    private static void rowOrder(Check check) {
        check.refuses(State.FULL, "row(0, 0, 10)", x -> x.row(0, 0, 10), BAD);
    }

    private static void readItems(Check check) {
        for (int form = 0; form < 4; form++) {
            GrownAsks x = new GrownAsks();
            x.row(5, 5, 5);
            State.lay(x, 3, form, 1, -9, N, 9, 0, 4);
            check.due("read of form " + form, x.read(3), 2);
            int[] due = {5, 5, 5, 1, -9, N, 9, 0, 4};
            for (int i = 0; i < 9; i++) check.due("at " + i, x.at(i / 3, i % 3), due[i]);
            check.due("rows", x.count(0), 3);
            check.due("the SHEET stays", x.get(3, form, 2), N);
            check.due("the SHEET stays", x.lose(3), 6);
        }
    }

    private static void readWhole(Check check) {
        for (int n = 0; n < 12; n++) {
            GrownAsks x = new GrownAsks();
            x.sheet(0, 1, n);
            check.due("read of " + n + " items", x.read(0), n / 3);
            check.due("rows", x.count(0), n / 3);
        }
        GrownAsks x = new GrownAsks();
        State.lay(x, 0, 3, 1, 2, 3, 4, 10);
        check.due("what is not whole is not looked at", x.read(0), 1);
    }

    private static void readEach(Check check) {
        long[] no = {10, -10, -99, -101, 4294967296L, 4294967196L, -4294967297L, Long.MIN_VALUE, Long.MAX_VALUE};
        for (long v : no) {
            for (int i = 0; i < 9; i++) {
                GrownAsks x = new GrownAsks();
                x.sheet(1, 3, 9);
                x.lay(1, 3, i, v);
                check.due("read with " + v + " as item " + i, x.read(1), i / 3);
                check.due("rows", x.count(0), i / 3);
            }
        }
        GrownAsks x = new GrownAsks();
        State.lay(x, 0, 0, -9, 9, N, 156);
        check.due("each may be", x.read(0), 1);
    }

    private static void readRoom(Check check) {
        for (int had = 0; had <= 8; had++) {
            GrownAsks x = new GrownAsks();
            for (int i = 0; i < had; i++) x.row(1, 1, 1);
            x.sheet(0, 2, 48);
            check.due("read with " + had + " rows", x.read(0), 8 - had);
            check.due("rows", x.count(0), 8);
            check.due("the last", x.at(7, 2), had == 8 ? 1 : 0);
            check.due("read again", x.read(0), 0);
        }
    }

    private static void readCame(Check check) {
        GrownAsks x = new GrownAsks();
        x.sheet(0, 0, 0);
        check.due("of none", x.read(0), 0);
        x.sheet(0, 0, 3);
        check.due("one", x.read(0), 1);
        check.due("one more, not how many there are", x.read(0), 1);
        x.sheet(0, 0, 48);
        check.due("six", x.read(0), 6);
    }

    private static void readBad(Check check) {
        for (int s : NO_SHEETS) check.refuses(State.RICH, "read(" + s + ")", x -> x.read(s), BAD);
    }

    private static void readNull(Check check) {
        check.finds(State.RICH, "read(3)", x -> x.read(3), State.NULL);
        check.finds(State.FULL, "read(3)", x -> x.read(3), State.NULL);
        check.finds(State.NEW, "read(0)", x -> x.read(0), State.NULL);
    }

    private static void at(Check check) {
        GrownAsks x = new GrownAsks();
        for (int i = 0; i < 8; i++) x.row(i, -i, i % 2 == 0 ? N : 9);
        for (int i = 0; i < 8; i++) {
            check.due("a", x.at(i, 0), i);
            check.due("b", x.at(i, 1), -i);
            check.due("c", x.at(i, 2), i % 2 == 0 ? N : 9);
        }
    }

    private static void atBad(Check check) {
        for (int row : NO_ROWS) check.refuses(State.RICH, "at(" + row + ", 0)", x -> x.at(row, 0), NO_CELL);
        for (int column : NO_COLUMNS) {
            check.refuses(State.RICH, "at(0, " + column + ")", x -> x.at(0, column), NO_CELL);
        }
        check.refuses(State.NEW, "at(0, 0)", x -> x.at(0, 0), NO_CELL);
        check.refuses(State.FULL, "at(8, 0)", x -> x.at(8, 0), NO_CELL);
    }

    private static void put(Check check) {
        GrownAsks x = Check.with("=a1");
        for (int i = 0; i < 8; i++) x.row(0, 0, 0);
        check.due("put", x.put(7, 2, 9), 0);
        check.due("put again", x.put(7, 2, N), 9);
        check.due("put again", x.put(7, 2, -9), N);
        check.due("at", x.at(7, 2), -9);
        check.due("the same again", x.put(7, 2, -9), -9);
        check.due("beside it", x.at(7, 1), 0);
        check.due("put", x.put(0, 0, 1), 0);
        check.due("which", x.which(0), 1);
        check.due("rows", x.count(0), 8);
    }

    private static void putBad(Check check) {
        for (int row : NO_ROWS) check.refuses(State.RICH, "put(" + row + ", 0, 9)", x -> x.put(row, 0, 9), NO_CELL);
        for (int column : NO_COLUMNS) {
            check.refuses(State.RICH, "put(0, " + column + ", 9)", x -> x.put(0, column, 9), NO_CELL);
        }
        for (int v : NO_VALUES) check.refuses(State.RICH, "put(0, 0, " + v + ")", x -> x.put(0, 0, v), NO_CELL);
        check.refuses(State.NEW, "put(0, 0, 0)", x -> x.put(0, 0, 0), NO_CELL);
        check.refuses(State.FULL, "put(8, 0, 0)", x -> x.put(8, 0, 0), NO_CELL);
    }

    private static void empty(Check check) {
        check.due("of none", new GrownAsks().empty(), 0);
        check.due("of a full one", State.FULL.make(0).empty(), 8);
        GrownAsks x = State.RICH.make(0);
        check.due("of four", x.empty(), 4);
        check.due("again", x.empty(), 0);
        check.due("rows", x.count(0), 0);
        check.due("nothings", x.count(6), 0);
        check.due("at", x.at(0, 0), NO_CELL);
        check.due("which", x.which(0), 0);
        check.due("bytes stay", x.count(1), 8);
        check.due("pairs stay", x.count(5), 3);
        x.row(4, 4, 4);
        check.due("what was is gone", x.at(1, 0), NO_CELL);
    }
}
