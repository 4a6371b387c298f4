/** Promises 1 to 6: a new object, row, read, at, put, empty. */
public final class TableTest {
    private static final int N = -100;
    private static final int[] NO_VALUES = {10, -10, -99, -101, 100, Integer.MIN_VALUE, Integer.MAX_VALUE};
    private static final int[] VALUES = {-9, -1, 0, 1, 9, N};

    private final Check check = new Check("TableTest");

    public static void main(String[] args) {
        new TableTest().all();
    }

    private void all() {
        newObject();
        row();
        read();
        readStops();
        readRefuses();
        at();
        put();
        empty();
        check.end();
    }

    private void newObject() {
        GrownAsks x = new GrownAsks();
        int[] due = {0, 0, 0, 255, 0, 0, 0, -2, 0};
        for (int what = 0; what < due.length; what++) check.due("new: count " + what, x.count(what), due[what]);
        check.due("new: at", x.at(0, 0), -1000);
        for (int text = 0; text < 2; text++) check.due("new: fault", x.fault(text), 0);
        for (int s = 0; s < 4; s++) check.due("new: lose", x.lose(s), -11);
        for (int a = 0; a < 8; a++) {
            for (int b = 0; b < 8; b++) if (a != b) check.due("new: learnt", x.learnt(a, b), 0);
        }
    }

    private void row() {
        GrownAsks x = new GrownAsks();
        for (int i = 0; i < 3; i++) {
            for (int v : NO_VALUES) {
                check.due("row with " + v, x.row(i == 0 ? v : 1, i == 1 ? v : 1, i == 2 ? v : 1), -2);
            }
        }
        check.due("rows after BAD", x.count(0), 0);
        for (int i = 0; i < 8; i++) {
            check.due("row " + i, x.row(VALUES[i % 6], VALUES[(i + 1) % 6], VALUES[(i + 2) % 6]), i);
        }
        for (int i = 0; i < 24; i++) {
            check.due("at", x.at(i / 3, i % 3), VALUES[(i / 3 + i % 3) % 6]);
        }
        long before = x.digest();
        check.due("ninth row", x.row(0, 0, 0), -4);
        check.due("ninth row, BAD first", x.row(0, 0, 10), -2);
        check.same("ninth row", before, x);
    }

    private static void fill(GrownAsks x, int s, int form, long... items) {
        x.sheet(s, form, items.length);
        for (int i = 0; i < items.length; i++) x.lay(s, form, i, items[i]);
    }

    private void read() {
        for (int form = 0; form < 4; form++) {
            GrownAsks x = new GrownAsks();
            x.row(5, 5, 5);
            fill(x, 3, form, 1, -9, N, 9, 0, 4, 7, 7);
            check.due("read of form " + form, x.read(3), 2);
            int[] due = {5, 5, 5, 1, -9, N, 9, 0, 4};
            for (int i = 0; i < 9; i++) check.due("at " + i, x.at(i / 3, i % 3), due[i]);
            check.due("rows", x.count(0), 3);
            check.due("the sheet stays", x.get(3, form, 7), 7);
        }
        GrownAsks x = new GrownAsks();
        for (int n = 0; n < 6; n++) {
            x.sheet(0, 0, n);
            check.due("read of " + n, x.read(0), n / 3);
        }
        x.sheet(0, 2, 48);
        check.due("read into the room left", x.read(0), 5);
        check.due("read without room", x.read(0), 0);
        check.due("rows", x.count(0), 8);
    }

    private void readStops() {
        long[] bad = {10, -10, -99, -101, 4294967296L, 4294967196L, Long.MIN_VALUE, Long.MAX_VALUE};
        for (long v : bad) {
            for (int i = 0; i < 9; i++) {
                GrownAsks x = new GrownAsks();
                x.sheet(1, 3, 9);
                x.lay(1, 3, i, v);
                check.due("read with " + v + " at " + i, x.read(1), i / 3);
                check.due("rows", x.count(0), i / 3);
            }
        }
    }

    private void readRefuses() {
        GrownAsks x = new GrownAsks();
        check.due("read(-1)", x.read(-1), -2);
        check.due("read(4)", x.read(4), -2);
        check.due("BAD is no finding", x.count(8), 0);
        check.due("read of a lost one", x.read(2), -11);
        check.due("finding", x.count(8), 1);
        check.due("rows", x.count(0), 0);
    }

    private void at() {
        GrownAsks x = new GrownAsks();
        x.row(1, N, 3);
        x.row(4, 5, -6);
        check.due("at(1, 2)", x.at(1, 2), -6);
        check.due("at(0, 1)", x.at(0, 1), N);
        int[][] none = {{-1, 0}, {2, 0}, {0, -1}, {0, 3}, {Integer.MIN_VALUE, 0}, {0, Integer.MAX_VALUE},
            {Integer.MAX_VALUE, 0}, {0, Integer.MIN_VALUE}};
        for (int[] c : none) check.due("at" + c[0] + "," + c[1], x.at(c[0], c[1]), -1000);
    }

    private void put() {
        GrownAsks x = Check.with("=a1");
        x.row(1, N, 3);
        x.row(4, 5, -6);
        check.due("put", x.put(1, 2, 9), -6);
        check.due("put again", x.put(1, 2, N), 9);
        check.due("put again", x.put(1, 2, -9), N);
        check.due("at", x.at(1, 2), -9);
        check.due("put and which", x.put(1, 0, 1) * 10 + x.which(0), 43);
        long before = x.digest();
        for (int v : NO_VALUES) check.due("put " + v, x.put(0, 0, v), -1000);
        int[][] none = {{-1, 0}, {2, 0}, {7, 0}, {0, -1}, {0, 3}, {Integer.MAX_VALUE, 0}, {0, Integer.MIN_VALUE}};
        for (int[] c : none) check.due("put" + c[0] + "," + c[1], x.put(c[0], c[1], 0), -1000);
        check.same("put", before, x);
    }

    private void empty() {
        GrownAsks x = new GrownAsks();
        check.due("empty of none", x.empty(), 0);
        x.row(1, 2, 3);
        x.row(1, 2, N);
        check.due("empty", x.empty(), 2);
        check.due("rows", x.count(0), 0);
        check.due("nothings", x.count(6), 0);
        check.due("at", x.at(0, 0), -1000);
        check.due("row", x.row(0, 0, 0), 0);
    }
}
