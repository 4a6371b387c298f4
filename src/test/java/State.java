/** Objects to begin with; in each SHEET 3 is LOST. */
enum State {
    /** As it is made. */
    NEW,
    /** 4 ROWS; TEXT 0 is a TEST of 4 ACTS, TEXT 1 is not ended; SHEETS of longs, bytes and ints. */
    RICH,
    /** RICH, but TEXT 0 is not ended and TEXT 1 is a TEST. */
    BARE,
    /** 8 ROWS, both TEXTS of 40 bytes (0 a TEST, 1 with a FAULT), SHEET 0 of 48 items. */
    FULL;

    static final int NULL = 1, INDEX = 2, CAST = 3, STORE = 4, SIZE = 5;
    static final String TEST = "|<a3?=bn";

    private static final int N = -100;
    private static final int[][] ROWS = {{1, N, 0}, {2, 3, 0}, {N, N, 0}, {1, N, 0}};

    /** The latest FINDING may be NULL or SIZE, which can be had without changing anything. */
    GrownAsks make(int latest) {
        GrownAsks x = new GrownAsks();
        if (this == FULL) {
            fillUp(x);
        } else if (this != NEW) {
            fillSome(x);
        }
        if (latest == NULL) x.lose(3);
        if (latest == SIZE) x.sheet(0, 0, -1);
        return x;
    }

    private void fillSome(GrownAsks x) {
        for (int[] r : ROWS) x.row(r[0], r[1], r[2]);
        Check.type(x, 0, TEST);
        x.learn(0);
        Check.type(x, this == RICH ? 1 : 0, "<a");
        if (this == BARE) Check.type(x, 1, TEST);
        x.set(0, 251);
        x.set(1, 129);
        lay(x, 0, 3, 5, 6, 7, Long.MIN_VALUE, -1, 10, 11);
        lay(x, 1, 0, 3, 4);
        lay(x, 2, 2);
    }

    private static void fillUp(GrownAsks x) {
        for (int i = 0; i < 8; i++) x.row(i, N, -i);
        Check.type(x, 0, "!".repeat(37) + "<ab");
        Check.type(x, 1, "&".repeat(40));
        x.sheet(0, 3, 48);
        x.lay(0, 3, 47, 9);
        lay(x, 1, 0, 3, 4);
        lay(x, 2, 2);
    }

    /** A SHEET of these items. */
    static void lay(GrownAsks x, int s, int form, long... items) {
        x.sheet(s, form, items.length);
        for (int i = 0; i < items.length; i++) x.lay(s, form, i, items[i]);
    }

    /** All that can be asked of an object but its latest FINDING; its SHEETS are lost by it. */
    static String told(GrownAsks x) {
        StringBuilder all = new StringBuilder();
        for (int what = 0; what < 7; what++) all.append(x.count(what)).append(' ');
        for (int row = 0; row < x.count(0); row++) {
            for (int column = 0; column < 3; column++) all.append(x.at(row, column)).append(' ');
        }
        for (int text = 0; text < 2; text++) {
            for (int i = 0; i < 40; i++) all.append(x.byteOf(text, i)).append(' ');
        }
        for (int a = 0; a < 8; a++) {
            for (int b = 0; b < a; b++) all.append(x.learnt(a, b));
        }
        for (int s = 0; s < 4; s++) all.append(sheet(x, s));
        return all.append(x.digest()).toString();
    }

    private static String sheet(GrownAsks x, int s) {
        int form = formOf(x, s);
        if (form < 0) return " LOST";
        StringBuilder all = new StringBuilder(" FORM " + form + ":");
        for (int i = 0; i < 48; i++) {
            long v = x.get(s, form, i);
            // an item may be the least long itself, so the FINDING tells where they end
            if (v == Long.MIN_VALUE && x.count(8) == INDEX) break;
            all.append(' ').append(v);
        }
        return all.append(" of ").append(x.lose(s)).toString();
    }

    /** -1: it is LOST. That the latest FINDING is SIZE, then, tells that get() found none. */
    private static int formOf(GrownAsks x, int s) {
        for (int form = 0; form < 4; form++) {
            x.sheet(0, 0, -1);
            long v = x.get(s, form, 0);
            boolean other = v == Long.MIN_VALUE && x.count(8) == CAST;
            boolean lost = v == Long.MIN_VALUE && x.count(8) == NULL;
            if (!other) return lost ? -1 : form;
        }
        return -1;
    }
}
