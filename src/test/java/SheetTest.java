/** Promises 30 to 35: sheet, lose, lay, get, copy, write. */
public final class SheetTest {
    private static final int N = -100;
    private static final long LEAST = Long.MIN_VALUE;
    private static final int[] NO_SHEETS = {-1, 4, Integer.MIN_VALUE, Integer.MAX_VALUE};

    private final Check check = new Check("SheetTest");

    public static void main(String[] args) {
        new SheetTest().all();
    }

    private void all() {
        sheet();
        lose();
        layAndGet();
        layRefuses();
        getRefuses();
        copy();
        copyWithin();
        copyRefuses();
        write();
        writeRefuses();
        check.end();
    }

    private void sheet() {
        GrownAsks x = new GrownAsks();
        for (int s = 0; s < 4; s++) {
            for (int form = 0; form < 4; form++) {
                for (int n = 0; n <= 48; n += 16) {
                    check.due("sheet", x.sheet(s, form, n), n);
                    for (int i = 0; i < n; i++) {
                        check.due("0 at first", x.get(s, form, i), 0);
                        x.lay(s, form, i, 7);
                    }
                    check.due("lose", x.lose(s), n);
                    x.sheet(s, form, n);
                }
            }
        }
        for (int s : NO_SHEETS) check.due("sheet " + s, x.sheet(s, 0, 1), -2);
        int[] noForms = {-1, 4, Integer.MIN_VALUE, Integer.MAX_VALUE};
        for (int form : noForms) check.due("form " + form, x.sheet(0, form, 1), -2);
        check.due("49", x.sheet(0, 0, 49), -2);
        check.due("most", x.sheet(0, 0, Integer.MAX_VALUE), -2);
        check.due("BAD ahead of SIZE", x.sheet(4, 0, -1), -2);
        check.due("BAD ahead of SIZE", x.sheet(0, 4, -1), -2);
        check.due("no finding yet", x.count(8), 0);
        x.sheet(0, 2, 3);
        x.lay(0, 2, 1, 5);
        check.due("SIZE", x.sheet(0, 0, -1), -15);
        check.due("SIZE", x.sheet(0, 0, Integer.MIN_VALUE), -15);
        check.due("finding", x.count(8), 5);
        check.due("it stays", x.get(0, 2, 1), 5);
        check.due("it stays", x.lose(0), 3);
    }

    private void lose() {
        GrownAsks x = new GrownAsks();
        for (int s : NO_SHEETS) check.due("lose " + s, x.lose(s), -2);
        check.due("no finding", x.count(8), 0);
        check.due("lost at first", x.lose(3), -11);
        check.due("finding", x.count(8), 1);
        x.sheet(3, 1, 0);
        check.due("none", x.lose(3), 0);
        check.due("lost", x.lose(3), -11);
        x.sheet(3, 1, 4);
        x.sheet(2, 1, 5);
        check.due("lose", x.lose(3), 4);
        check.due("lost", x.lay(3, 1, 0, 1), -11);
        check.due("the other", x.lose(2), 5);
    }

    private void layAndGet() {
        long[] values = {0, 1, -1, 127, 128, 255, 256, -128, -129, 32767, 32768, 65535, -32769, 2147483647L,
            2147483648L, 4294967295L, -2147483649L, Long.MAX_VALUE, LEAST};
        GrownAsks x = new GrownAsks();
        for (int form = 0; form < 4; form++) {
            x.sheet(form, form, 48);
            for (long v : values) {
                long due = form == 0 ? (byte) v : form == 1 ? (short) v : form == 2 ? (int) v : v;
                check.due("lay", x.lay(form, form, 47, v), 1);
                check.due("get of " + v + " in form " + form, x.get(form, form, 47), due);
                check.due("the one ahead", x.get(form, form, 46), 0);
            }
            check.due("lay 0", x.lay(form, form, 0, form), 1);
        }
        for (int form = 0; form < 4; form++) check.due("each its own", x.get(form, form, 0), form);
        check.due("no finding", x.count(8), 0);
    }

    private void layRefuses() {
        GrownAsks x = new GrownAsks();
        for (int s : NO_SHEETS) check.due("lay in " + s, x.lay(s, 0, 0, 1), -2);
        check.due("form 4", x.lay(0, 4, 0, 1), -2);
        check.due("form -1", x.lay(0, -1, 0, 1), -2);
        check.due("no finding", x.count(8), 0);
        check.due("NULL ahead of INDEX", x.lay(0, 0, -1, 1), -11);
        x.sheet(0, 2, 3);
        check.due("CAST", x.lay(0, 3, 0, 1), -13);
        check.due("CAST ahead of INDEX", x.lay(0, 1, 3, 1), -13);
        check.due("finding", x.count(8), 3);
        int[] none = {3, -1, 48, Integer.MAX_VALUE, Integer.MIN_VALUE};
        for (int i : none) check.due("INDEX " + i, x.lay(0, 2, i, 1), -12);
        check.due("finding", x.count(8), 2);
        check.due("BAD ahead of CAST", x.lay(0, 4, 9, 1), -2);
        check.due("finding stays", x.count(8), 2);
        for (int i = 0; i < 3; i++) check.due("nothing came", x.get(0, 2, i), 0);
        x.sheet(1, 0, 0);
        check.due("INDEX of none", x.lay(1, 0, 0, 1), -12);
    }

    private void getRefuses() {
        GrownAsks x = new GrownAsks();
        for (int s : NO_SHEETS) check.due("get of " + s, x.get(s, 0, 0), LEAST);
        check.due("form 4", x.get(0, 4, 0), LEAST);
        check.due("form -1", x.get(0, -1, 0), LEAST);
        check.due("BAD is no finding", x.count(8), 0);
        check.due("NULL", x.get(0, 0, -1), LEAST);
        check.due("finding", x.count(8), 1);
        x.sheet(0, 3, 2);
        x.lay(0, 3, 1, LEAST);
        check.due("CAST", x.get(0, 2, 5), LEAST);
        check.due("finding", x.count(8), 3);
        check.due("the least long itself", x.get(0, 3, 1), LEAST);
        check.due("is no finding", x.count(8), 3);
        int[] none = {2, -1, 48, Integer.MAX_VALUE, Integer.MIN_VALUE};
        for (int i : none) {
            check.due("CAST", x.lay(0, 0, 0, 0), -13);
            check.due("INDEX " + i, x.get(0, 3, i), LEAST);
            check.due("finding", x.count(8), 2);
        }
    }

    private static GrownAsks counted(int form, int n) {
        GrownAsks x = new GrownAsks();
        x.sheet(0, form, n);
        for (int i = 0; i < n; i++) x.lay(0, form, i, i + 1);
        return x;
    }

    private void items(String told, GrownAsks x, int s, int form, long... due) {
        for (int i = 0; i < due.length; i++) check.due(told + ": item " + i, x.get(s, form, i), due[i]);
    }

    private void copy() {
        for (int form = 0; form < 4; form++) {
            GrownAsks x = counted(form, 5);
            x.sheet(3, form, 4);
            check.due("copy", x.copy(0, 2, 3, 1, 3), 1);
            items("copied", x, 3, form, 0, 3, 4, 5);
            items("stays", x, 0, form, 1, 2, 3, 4, 5);
            check.due("none at the ends", x.copy(0, 5, 3, 4, 0), 1);
            check.due("none at 0", x.copy(0, 0, 3, 0, 0), 1);
            items("still", x, 3, form, 0, 3, 4, 5);
            check.due("back", x.copy(3, 0, 0, 1, 4), 1);
            items("back", x, 0, form, 1, 0, 3, 4, 5);
        }
    }

    private void copyWithin() {
        GrownAsks x = counted(3, 5);
        check.due("up", x.copy(0, 0, 0, 1, 4), 1);
        items("up", x, 0, 3, 1, 1, 2, 3, 4);
        x = counted(3, 5);
        check.due("down", x.copy(0, 1, 0, 0, 4), 1);
        items("down", x, 0, 3, 2, 3, 4, 5, 5);
        check.due("in its place", x.copy(0, 0, 0, 0, 5), 1);
        items("in its place", x, 0, 3, 2, 3, 4, 5, 5);
    }

    private void copyRefuses() {
        GrownAsks x = counted(2, 5);
        x.sheet(1, 2, 3);
        x.sheet(2, 3, 9);
        for (int s : NO_SHEETS) {
            check.due("from " + s, x.copy(s, 0, 0, 0, 1), -2);
            check.due("to " + s, x.copy(0, 0, s, 0, 1), -2);
            check.due("BAD ahead of NULL", x.copy(3, 0, s, 0, 1), -2);
        }
        check.due("no finding", x.count(8), 0);
        check.due("from a lost one", x.copy(3, 0, 0, 0, 1), -11);
        check.due("to a lost one", x.copy(0, -1, 3, 0, 1), -11);
        check.due("both lost", x.copy(3, 0, 3, 0, -1), -11);
        check.due("STORE", x.copy(0, 0, 2, 0, 1), -14);
        check.due("finding", x.count(8), 4);
        check.due("STORE ahead of INDEX", x.copy(2, -1, 0, 0, 1), -14);
        check.due("STORE of none", x.copy(2, 0, 0, 0, 0), -14);
        int most = Integer.MAX_VALUE, least = Integer.MIN_VALUE;
        int[][] none = {{-1, 0, 1}, {0, -1, 1}, {0, 0, -1}, {0, 0, 4}, {3, 0, 3}, {0, 1, 3}, {6, 0, 0}, {0, 4, 0},
            {-1, 0, 0}, {0, -1, 0}, {most, 0, 1}, {0, most, 1}, {0, 0, most}, {1, 1, most}, {most, most, most},
            {least, 0, 0}, {0, least, 0}, {0, 0, least}, {5, 0, 1}, {0, 3, 1}};
        for (int[] i : none) {
            x.lose(3);
            check.due("INDEX " + i[0] + " " + i[1] + " " + i[2], x.copy(0, i[0], 1, i[1], i[2]), -12);
            check.due("finding", x.count(8), 2);
        }
        items("nothing came", x, 1, 2, 0, 0, 0);
        check.due("at the ends", x.copy(0, 5, 1, 3, 0), 1);
    }

    private void write() {
        for (int form = 0; form < 4; form++) {
            GrownAsks x = new GrownAsks();
            x.sheet(1, form, 8);
            x.lay(1, form, 7, 55);
            check.due("write of no rows", x.write(1), 0);
            x.row(1, N, -9);
            x.row(9, 0, 4);
            check.due("write", x.write(1), 6);
            items("written", x, 1, form, 1, N, -9, 9, 0, 4, 0, 55);
            x.row(7, 6, 5);
            check.due("write what has room", x.write(1), 8);
            items("written", x, 1, form, 1, N, -9, 9, 0, 4, 7, 6);
            x.sheet(2, form, 0);
            check.due("write without room", x.write(2), 0);
            x.empty();
            check.due("read again", x.read(1), 2);
            check.due("read again", x.at(0, 1), N);
            check.due("no finding", x.count(8), 0);
        }
        GrownAsks x = new GrownAsks();
        for (int i = 0; i < 8; i++) x.row(i, i, i);
        x.sheet(0, 0, 48);
        check.due("a full table", x.write(0), 24);
        check.due("the last", x.get(0, 0, 23), 7);
    }

    private void writeRefuses() {
        GrownAsks x = new GrownAsks();
        for (int s : NO_SHEETS) check.due("write to " + s, x.write(s), -2);
        check.due("no finding", x.count(8), 0);
        check.due("NULL", x.write(0), -11);
        check.due("finding", x.count(8), 1);
    }
}
