/** Promises 36 and 37, and the sentence on refusals and their order. */
final class CountEdges {
    private static final int N = -100, BAD = -2, NOT = -3, FULL = -4;
    private static final int MOST = Integer.MAX_VALUE, LEAST = Integer.MIN_VALUE;
    private static final long NO_ITEM = Long.MIN_VALUE;

    private CountEdges() {
    }

    static void addTo(Edges edges) {
        edges.at("Promise 36");
        edges.add("0 ROWS,", CountEdges::rows);
        edges.add("1, 2 bytes of TEXTS,", CountEdges::bytes);
        edges.add("3 RULES that are on (bits), 4 FAULTS put in (bits),", CountEdges::rulesAndFaults);
        edges.add("5 pairs that are LEARNT,", CountEdges::pairs);
        edges.add("6 NOTHINGS in THE TABLE,", CountEdges::nothings);
        edges.add("8 the number of the latest FINDING", CountEdges::latest);
        edges.add("(0 before any).", CountEdges::beforeAny);
        edges.add("BAD.", CountEdges::bad);
        edges.at("Promise 37");
        edges.add("h is 17; h becomes 31 h and each of", CountEdges::digestOfNone);
        edges.add("(of each thing all that is told of it, then of the next one):", CountEdges::digestInTurn);
        edges.add("count() 0 to 6;", CountEdges::digestOfCounts);
        edges.add("of each ROW its COLUMNS;", CountEdges::digestOfRows);
        edges.add("of TEXTS fault(), and, without a FAULT, acts(), meant(), which(), fired(), quarrels() with LAWS 0 to 6;",
                CountEdges::digestOfTexts);
        edges.add("as longs that wrap.", CountEdges::digestWraps);
        edges.at("Refusals");
        edges.add("Refusals, the first that fits, in the order told at each act:", CountEdges::firstThatFits);
        edges.add("BAD -2 (a number not as told, no such thing)", CountEdges::badFirst);
        edges.add("NULL,", CountEdges::nullNext);
        edges.add("NOT -3 (a FAULT of the text that is asked)", CountEdges::ofTheTextAsked);
        edges.add("FULL -4,", CountEdges::full);
        edges.add("other FINDINGS.", CountEdges::otherFindings);
        edges.add("They change nothing", CountEdges::changeNothing);
        edges.add("(FINDINGS but count() 8).", CountEdges::butTheLatest);
    }

    private static void rows(Check check) {
        GrownAsks x = new GrownAsks();
        for (int i = 0; i < 8; i++) {
            check.due("rows", x.count(0), i);
            x.row(0, 0, 0);
        }
        x.row(0, 0, 0);
        check.due("no more than 8", x.count(0), 8);
        x.empty();
        check.due("none", x.count(0), 0);
    }

    private static void bytes(Check check) {
        GrownAsks x = State.FULL.make(0);
        check.due("TEXT 0", x.count(1), 40);
        check.due("TEXT 1", x.count(2), 40);
        x.wipe(0);
        check.due("TEXT 0", x.count(1), 0);
        check.due("TEXT 1", x.count(2), 40);
        GrownAsks y = State.RICH.make(0);
        check.due("TEXT 0", y.count(1), 8);
        check.due("TEXT 1", y.count(2), 2);
    }

    private static void rulesAndFaults(Check check) {
        GrownAsks x = new GrownAsks();
        check.due("RULES at first", x.count(3), 255);
        check.due("FAULTS at first", x.count(4), 0);
        x.set(0, 0);
        x.set(1, 255);
        check.due("RULES", x.count(3), 0);
        check.due("FAULTS, done or not", x.count(4), 255);
    }

    private static void pairs(Check check) {
        GrownAsks x = Check.with("||&!<na=11<aa|=nn|?<na>a9");
        check.due("none", x.count(5), 0);
        for (int i = 0; i < 2; i++) x.row(1, 1, 1);
        x.learn(0);
        check.due("all", x.count(5), 28);
        x.learn(0);
        check.due("no more", x.count(5), 28);
        check.due("three", State.RICH.make(0).count(5), 3);
    }

    private static void nothings(Check check) {
        GrownAsks x = new GrownAsks();
        check.due("of no ROWS", x.count(6), 0);
        for (int i = 0; i < 8; i++) x.row(N, N, N);
        check.due("the most", x.count(6), 24);
        for (int column = 0; column < 3; column++) {
            x.put(7, column, -9);
            check.due("one less", x.count(6), 23 - column);
        }
        x.empty();
        x.row(0, N, 0);
        check.due("one", x.count(6), 1);
    }

    private static void latest(Check check) {
        GrownAsks x = State.RICH.make(0);
        x.lose(3);
        check.due("NULL", x.count(8), 1);
        x.get(0, 3, 7);
        check.due("INDEX", x.count(8), 2);
        x.get(0, 2, 7);
        check.due("CAST", x.count(8), 3);
        x.copy(0, 0, 1, 0, 0);
        check.due("STORE", x.count(8), 4);
        x.sheet(0, 0, -1);
        check.due("SIZE", x.count(8), 5);
        x.row(10, 0, 0);
        x.acts(1);
        x.get(0, 3, 0);
        x.lose(0);
        check.due("what is no FINDING leaves it", x.count(8), 5);
        x.lose(0);
        check.due("the latest, not the greatest", x.count(8), 1);
    }

    private static void beforeAny(Check check) {
        check.due("a new one", new GrownAsks().count(8), 0);
        for (State from : State.values()) check.due(from + "", from.make(0).count(8), 0);
        GrownAsks x = new GrownAsks();
        x.lose(4);
        x.get(0, 4, 0);
        x.row(10, 0, 0);
        x.which(0);
        check.due("BAD and NOT are none", x.count(8), 0);
    }

    private static void bad(Check check) {
        for (int what : new int[] {-1, 7, 9, 10, MOST, LEAST}) {
            check.refuses(State.RICH, "count(" + what + ")", x -> x.count(what), BAD);
        }
    }

    private static long digest(long... told) {
        long h = 17;
        for (long v : told) h = 31 * h + v;
        return h;
    }

    private static void digestOfNone(Check check) {
        check.due("a new one", new GrownAsks().digest(), digest(0, 0, 0, 255, 0, 0, 0, 0, 0));
    }

    /** ROW by ROW and TEXT by TEXT, not COLUMN by COLUMN, nor all fault() first. */
    private static void digestInTurn(Check check) {
        GrownAsks x = Check.with("=a1");
        Check.type(x, 1, "=a3");
        x.row(1, 2, 3);
        x.row(4, 5, 6);
        check.due("in turn", x.digest(), digest(2, 3, 3, 255, 0, 0, 0, 1, 2, 3, 4, 5, 6,
                -1, 1, 1, 1, 0, 0, 0, 0, 0, 0, 0, 0, -1, 1, 0, 0, 0, 0, 0, 0, 0, 0, 0, 0));
    }

    private static void digestOfCounts(Check check) {
        GrownAsks x = new GrownAsks();
        x.type(0, 0);
        x.type(1, 0);
        x.type(1, 0);
        x.set(0, 7);
        x.set(1, 9);
        x.lose(0);
        check.due("counts but 8", x.digest(), digest(0, 1, 2, 7, 9, 0, 0, 0, 0));
        GrownAsks y = Check.with("!=nn");
        y.row(N, 0, N);
        y.learn(0);
        y.wipe(0);
        check.due("pairs and NOTHINGS", y.digest(), digest(1, 0, 0, 255, 0, 1, 2, N, 0, N, 0, 0));
    }

    private static void digestOfRows(Check check) {
        GrownAsks x = new GrownAsks();
        long[] told = new long[7 + 24 + 2];
        told[0] = 8;
        told[3] = 255;
        for (int i = 0; i < 8; i++) {
            x.row(i, -i, 9);
            told[7 + 3 * i] = i;
            told[8 + 3 * i] = -i;
            told[9 + 3 * i] = 9;
        }
        check.due("eight ROWS", x.digest(), digest(told));
        x.empty();
        check.due("none", x.digest(), digest(0, 0, 0, 255, 0, 0, 0, 0, 0));
    }

    private static void digestOfTexts(Check check) {
        GrownAsks x = Check.with("!=an");
        Check.type(x, 1, "=a1&");
        for (int i = 0; i < 2; i++) x.row(1, N, 2);
        x.row(N, 0, -9);
        x.set(1, 1);
        check.due("a FAULT in TEXT 1", x.digest(), digest(3, 4, 4, 255, 1, 0, 3, 1, N, 2, 1, N, 2, N, 0, -9,
                -1, 2, 0, 7, 1 | 2 | 128, 0, 0, 0, 0, 0, 0, 0, 3));
        x.set(1, 128);
        Check.type(x, 1, "=a1");
        check.due("no FAULT", x.digest(), digest(3, 4, 3, 255, 128, 0, 3, 1, N, 2, 1, N, 2, N, 0, -9,
                -1, 2, 0, 0, 1 | 2, 1, 0, 0, 0, 0, 1, 0, -1, 1, 3, 1, 128, 1, 1, 0, 0, 0, 1, 0));
        x.wipe(0);
        check.due("a FAULT in TEXT 0", x.digest(), digest(3, 0, 3, 255, 128, 0, 3, 1, N, 2, 1, N, 2, N, 0, -9,
                0, -1, 1, 3, 1, 128, 1, 1, 0, 0, 0, 1, 0));
        x.set(1, 4);
        Check.type(x, 0, "=1n");
        x.wipe(1);
        check.due("LAW 6 is the last", x.digest(), digest(3, 3, 0, 255, 4, 0, 3, 1, N, 2, 1, N, 2, N, 0, -9,
                -1, 1, 0, 0, 0, 0, 0, 0, 0, 0, 0, 1, 0));
    }

    /** By whole numbers without bound, cut to 64 bits at the end. */
    private static void digestWraps(Check check) {
        GrownAsks x = new GrownAsks();
        for (int i = 0; i < 8; i++) x.row(9, 9, 9);
        java.math.BigInteger h = java.math.BigInteger.valueOf(17);
        long[] told = new long[33];
        told[0] = 8;
        told[3] = 255;
        java.util.Arrays.fill(told, 7, 31, 9);
        for (long v : told) h = h.multiply(java.math.BigInteger.valueOf(31)).add(java.math.BigInteger.valueOf(v));
        check.isTrue("it is beyond a long", h.bitLength() > 64);
        check.due("wrapped", x.digest(), h.longValue());
    }

    private static void firstThatFits(Check check) {
        check.refuses(State.FULL, "row(10, 0, 0): BAD, FULL", x -> x.row(10, 0, 0), BAD);
        check.refuses(State.FULL, "type(0, 256): BAD, FULL", x -> x.type(0, 256), BAD);
        check.refuses(State.BARE, "quarrels(0, 7): BAD, NOT", x -> x.quarrels(0, 7), BAD);
        check.refuses(State.RICH, "lay(3, 4, -1, 0): BAD, NULL, CAST, INDEX", x -> x.lay(3, 4, -1, 0), BAD);
        check.finds(State.RICH, "lay(3, 0, -1, 0): NULL, CAST, INDEX", x -> x.lay(3, 0, -1, 0), State.NULL);
        check.finds(State.RICH, "lay(0, 0, -1, 0): CAST, INDEX", x -> x.lay(0, 0, -1, 0), State.CAST);
        check.finds(State.RICH, "copy(0, -1, 1, 0, 1): STORE, INDEX", x -> x.copy(0, -1, 1, 0, 1), State.STORE);
        check.refuses(State.RICH, "sheet(0, 4, -1): BAD, SIZE", x -> x.sheet(0, 4, -1), BAD);
        check.refuses(State.RICH, "means(1, 9, 0): NOT, BAD", x -> x.means(1, 9, 0), NOT);
        check.refuses(State.RICH, "has(1, 9, 0): NOT, BAD", x -> x.has(1, 9, 0), NOT);
    }

    private static void badFirst(Check check) {
        check.due("BAD", GrownAsks.BAD, -2);
        check.refuses(State.BARE, "acts(2)", x -> x.acts(2), BAD);
        check.refuses(State.BARE, "cut(0, 3)", x -> x.cut(0, 3), BAD);
        check.refuses(State.BARE, "led(-1)", x -> x.led(-1), BAD);
        check.refuses(State.BARE, "wrong(0, 2)", x -> x.wrong(0, 2), BAD);
        check.refuses(State.BARE, "holds(7)", x -> x.holds(7), BAD);
        check.refuses(State.BARE, "seen(8, 0)", x -> x.seen(8, 0), BAD);
        check.refuses(State.BARE, "tell(0, 0, 3)", x -> x.tell(0, 0, 3), -1000);
        check.refuses(State.BARE, "means(0, 0, 4)", x -> x.means(0, 0, 4), BAD);
        check.refuses(State.BARE, "has(0, -1, 0)", x -> x.has(0, -1, 0), BAD);
        check.refuses(State.RICH, "copy(3, 0, 4, 0, 0)", x -> x.copy(3, 0, 4, 0, 0), BAD);
        check.refuses(State.RICH, "get(3, 4, 0)", x -> x.get(3, 4, 0), NO_ITEM);
    }

    private static void nullNext(Check check) {
        check.finds(State.RICH, "copy(3, -1, 1, 0, 1), ahead of STORE and INDEX", x -> x.copy(3, -1, 1, 0, 1), State.NULL);
        check.finds(State.RICH, "copy(0, -1, 3, 0, 1), ahead of STORE and INDEX", x -> x.copy(0, -1, 3, 0, 1), State.NULL);
        check.findsAs(State.RICH, "get(3, 0, -1), ahead of CAST and INDEX", x -> x.get(3, 0, -1), State.NULL, NO_ITEM);
        check.finds(State.FULL, "read(3), though there is no room", x -> x.read(3), State.NULL);
    }

    private static void ofTheTextAsked(Check check) {
        check.due("NOT", GrownAsks.NOT, -3);
        check.refuses(State.RICH, "which(1)", x -> x.which(1), NOT);
        check.due("TEXT 1 alone has one", State.RICH.make(0).which(0), 7);
        check.due("TEXT 1 alone has one", State.RICH.make(0).blind(), 34);
        check.refuses(State.BARE, "which(0)", x -> x.which(0), NOT);
        check.refuses(State.BARE, "blind()", x -> x.blind(), NOT);
        check.due("TEXT 0 alone has one", State.BARE.make(0).which(1), 7);
        check.due("TEXT 0 alone has one", State.BARE.make(0).learn(1), 0);
    }

    private static void full(Check check) {
        check.due("FULL", GrownAsks.FULL, -4);
        check.refuses(State.FULL, "row(0, 0, 0)", x -> x.row(0, 0, 0), FULL);
        check.refuses(State.FULL, "type(0, 0)", x -> x.type(0, 0), FULL);
        check.refuses(State.FULL, "type(1, 255)", x -> x.type(1, 255), FULL);
        GrownAsks x = State.FULL.make(0);
        x.sheet(1, 0, 3);
        check.due("read() is not FULL", x.read(1), 0);
    }

    private static void otherFindings(Check check) {
        check.finds(State.RICH, "sheet(0, 0, -1)", x -> x.sheet(0, 0, -1), State.SIZE);
        check.finds(State.RICH, "lay(0, 2, 0, 0)", x -> x.lay(0, 2, 0, 0), State.CAST);
        check.finds(State.RICH, "lay(0, 3, 7, 0)", x -> x.lay(0, 3, 7, 0), State.INDEX);
        check.finds(State.RICH, "copy(0, 0, 1, 0, 0)", x -> x.copy(0, 0, 1, 0, 0), State.STORE);
    }

    private static void changeNothing(Check check) {
        for (State from : State.values()) {
            check.refuses(from, "row(0, 0, 10)", x -> x.row(0, 0, 10), BAD);
            check.refuses(from, "read(4)", x -> x.read(4), BAD);
            check.refuses(from, "put(0, 0, 10)", x -> x.put(0, 0, 10), -1000);
            check.refuses(from, "type(0, 256)", x -> x.type(0, 256), BAD);
            check.refuses(from, "wipe(2)", x -> x.wipe(2), BAD);
            check.refuses(from, "set(0, 256)", x -> x.set(0, 256), BAD);
            check.refuses(from, "set(2, 0)", x -> x.set(2, 0), BAD);
            check.refuses(from, "grow(0, 10)", x -> x.grow(0, 10), BAD);
            check.refuses(from, "learn(2)", x -> x.learn(2), BAD);
            check.refuses(from, "sheet(0, 0, 49)", x -> x.sheet(0, 0, 49), BAD);
            check.refuses(from, "lose(4)", x -> x.lose(4), BAD);
            check.refuses(from, "lay(0, 4, 0, 1)", x -> x.lay(0, 4, 0, 1), BAD);
            check.refuses(from, "copy(0, 0, 4, 0, 1)", x -> x.copy(0, 0, 4, 0, 1), BAD);
            check.refuses(from, "write(4)", x -> x.write(4), BAD);
        }
    }

    private static void butTheLatest(Check check) {
        for (State from : State.values()) {
            check.finds(from, "sheet(1, 1, -1)", x -> x.sheet(1, 1, -1), State.SIZE);
            check.finds(from, "lose(3)", x -> x.lose(3), State.NULL);
            check.finds(from, "read(3)", x -> x.read(3), State.NULL);
            check.finds(from, "write(3)", x -> x.write(3), State.NULL);
            check.finds(from, "copy(3, 0, 3, 0, 0)", x -> x.copy(3, 0, 3, 0, 0), State.NULL);
            check.findsAs(from, "get(3, 0, 0)", x -> x.get(3, 0, 0), State.NULL, NO_ITEM);
            check.finds(from, "lay(3, 0, 0, 1)", x -> x.lay(3, 0, 0, 1), State.NULL);
        }
        check.finds(State.FULL, "copy(0, 0, 0, 1, 48)", x -> x.copy(0, 0, 0, 1, 48), State.INDEX);
    }
}
