/** Promises 19 to 22: quarrels, cut, led, wrong. */
public final class LawTest {
    private static final int N = -100;
    private static final int NOT_CUT = -3;
    private static final int[] NO_LAWS = {-1, 7, Integer.MIN_VALUE, Integer.MAX_VALUE};

    private final Check check = new Check("LawTest");

    public static void main(String[] args) {
        new LawTest().all();
    }

    private void all() {
        quarrelsOfEachLaw();
        kindsOfEachColumn();
        quarrelsOfSame();
        lawsThatNoFaultBreaks();
        quarrelsRefuses();
        cutRows();
        cutTests();
        cutRefuses();
        led();
        ledRefuses();
        wrong();
        wrongRefuses();
        check.end();
    }

    /** LAWS with which TEXT 0 QUARRELS, as bits. */
    private static int quarrels(GrownAsks x) {
        int bits = 0;
        for (int law = 0; law < 7; law++) bits |= x.quarrels(0, law) << law;
        return bits;
    }

    private void quarrelsOfEachLaw() {
        GrownAsks x = Check.with("=an");
        x.set(1, 255);
        check.due("the empty table", quarrels(x), 0);
        x.set(1, 0);
        x.row(1, 2, 3);
        check.due("no fault", quarrels(x), 0);
        x.set(1, 1);
        check.due("fault 0: !p and ?p are both yes", quarrels(x), 1 | 32);
        x.set(1, 32);
        check.due("fault 5: neither is", quarrels(x), 1 | 32);
        x.set(1, 33);
        check.due("faults 0 and 5: just one is", quarrels(x), 0);
        x.set(1, 4);
        check.due("fault 2: &p?!p is yes", quarrels(x), 64);
        x.set(1, 5);
        check.due("faults 0 and 2: ?!p is no", quarrels(x), 1 | 32);
        x.set(1, 1);
        x.set(0, 254);
        check.due("the rule is off", quarrels(x), 0);
        x.set(0, 255);
        for (int c = 0; c < 3; c++) {
            for (int k = 0; k < 3; k++) x.put(0, k, k == c ? 1 : k % 2 == 0 ? 0 : N);
            check.due("a total of column " + c, quarrels(x), 1 | 32);
            x.put(0, c, 0);
            check.due("no total", quarrels(x), 1);
        }
        Check.type(x, 0, "&=an=an");
        x.set(1, 32);
        check.due("rule 5 is for < = >", quarrels(x), 0);
    }

    /** A yes ROW, and two of nothing that are unlike in one COLUMN alone. */
    private void kindsOfEachColumn() {
        int[][][] rows = {{{5, 1, 0}, {1, N, 0}, {2, N, 0}}, {{1, 5, 0}, {N, 1, 0}, {N, 2, 0}},
            {{1, 0, 5}, {N, 0, 1}, {N, 0, 2}}};
        String[] tests = {"=b1", "=a1", "=a1"};
        for (int column = 0; column < 3; column++) {
            GrownAsks x = Check.with(tests[column]);
            for (int[] r : rows[column]) x.row(r[0], r[1], r[2]);
            x.set(1, 4);
            check.due("kinds of column " + column, quarrels(x), 64);
            x.put(2, column, 1);
            check.due("no more kinds of column " + column, quarrels(x), 0);
        }
    }

    private void quarrelsOfSame() {
        GrownAsks x = Check.with("=a1");
        x.set(1, 128);
        x.row(1, 0, 0);
        x.row(1, 0, 1);
        check.due("unlike rows", quarrels(x), 0);
        x.put(1, 2, 0);
        check.due("yes twice", quarrels(x), 1 | 2 | 32);
        x.put(0, 0, 0);
        x.put(1, 0, 0);
        check.due("no twice, without a total", quarrels(x), 1);
        x.put(0, 1, 4);
        x.put(1, 1, 4);
        check.due("no twice, with a total", quarrels(x), 1 | 32);
        Check.type(x, 0, "=an");
        check.due("nothing twice", quarrels(x), 1 | 32);
        Check.type(x, 1, "=a0");
        check.due("of text 1", x.quarrels(1, 1), 1);
        check.due("of text 0", x.quarrels(0, 1), 0);
    }

    private void lawsThatNoFaultBreaks() {
        String[] tests = {"=an", "!=an", "|=a1=bn", "&=a1=bn", "?=ab", ">a5", "<ab", "!>a5"};
        for (String test : tests) {
            GrownAsks x = Check.with(test);
            x.row(1, 1, 1);
            x.row(1, N, 1);
            x.row(N, N, 0);
            x.row(1, 1, 1);
            x.row(1, 1, 1);
            for (int faults = 0; faults < 256; faults++) {
                x.set(1, faults);
                check.due("laws 2 to 4 of " + test + " with " + faults, quarrels(x) & 28, 0);
            }
        }
    }

    private void quarrelsRefuses() {
        GrownAsks x = Check.with("=an");
        x.row(1, 2, 3);
        for (int law : NO_LAWS) {
            check.due("law " + law, x.quarrels(0, law), -2);
            check.due("BAD ahead of NOT", x.quarrels(1, law), -2);
        }
        check.due("text -1", x.quarrels(-1, 0), -2);
        check.due("text 2", x.quarrels(2, 0), -2);
        for (int law = 0; law < 7; law++) check.due("NOT", x.quarrels(1, law), -3);
        x.empty();
        check.due("NOT of an empty table, too", x.quarrels(1, 0), -3);
    }

    private void cuts(String told, GrownAsks x, int law, int... due) {
        long before = x.digest();
        for (int what = 0; what < 3; what++) check.due(told + " cut " + what, x.cut(law, what), due[what]);
        check.same(told, before, x);
    }

    private void cutRows() {
        GrownAsks x = Check.with("=an");
        x.set(1, 1);
        for (int i = 0; i < 8; i++) x.row(i, 0, 0);
        cuts("each row quarrels, the last stays", x, 0, 128, 1, 0);
        cuts("totals: row 0 has none", x, 5, 128, 1, 0);
        x.put(7, 0, 0);
        cuts("totals: nor has row 7", x, 5, 64, 1, 0);
        Check.type(x, 0, "=a1");
        x.set(1, 128);
        x.empty();
        int[] as = {1, 2, 1, 2, 1, 1};
        for (int a : as) x.row(a, 0, 0);
        cuts("the last two that are the same", x, 1, 48, 1, 0);
    }

    private void cutTests() {
        GrownAsks x = Check.with("&!<ab|=a1>c0");
        x.set(1, 1);
        x.row(1, 2, 3);
        x.row(N, 0, 0);
        x.row(5, 5, 5);
        cuts("down to <ab", x, 0, 2, 1, 2);
        Check.type(x, 0, "&=11&=bn=11");
        cuts("the first of those in it, then of those in that", x, 0, 4, 1, 3);
        x.set(1, 32);
        Check.type(x, 0, "&=11=bn");
        cuts("fault 5 needs a comparison", x, 0, NOT_CUT, NOT_CUT, NOT_CUT);
        Check.type(x, 0, "?=bn");
        cuts("as meant by itself", x, 0, NOT_CUT, NOT_CUT, NOT_CUT);
        Check.type(x, 0, "!!=bn");
        x.set(1, 4);
        cuts("a test in a test in it", x, 6, 4, 1, 2);
        Check.type(x, 0, "!&=bn=bn");
        cuts("the first act by which it does", x, 6, 4, 1, 2);
        x.empty();
        x.row(1, 1, 1);
        x.row(2, 1, 1);
        x.row(1, 1, 1);
        x.set(1, 128);
        Check.type(x, 0, "|=a1=b9");
        cuts("rows, then tests", x, 1, 5, 1, 1);
        Check.type(x, 0, "|=a7|=a1=c1");
        cuts("the first that quarrels is not one leaf", x, 1, 5, 1, 3);
    }

    private void cutRefuses() {
        GrownAsks x = Check.with("=an");
        x.row(1, 2, 3);
        for (int law : NO_LAWS) check.due("law " + law, x.cut(law, 0), -2);
        check.due("what -1", x.cut(0, -1), -2);
        check.due("what 3", x.cut(0, 3), -2);
        for (int what = 0; what < 3; what++) check.due("no quarrel", x.cut(0, what), -3);
        x.wipe(0);
        Check.type(x, 1, "=an");
        x.set(1, 255);
        check.due("a fault of text 0", x.cut(0, 0), -3);
        check.due("BAD ahead of NOT", x.cut(0, 3), -2);
        check.due("BAD ahead of NOT", x.cut(7, 0), -2);
    }

    private void led() {
        GrownAsks x = Check.with("=an");
        x.row(1, 1, 1);
        check.due("no quarrel", x.led(0), 0);
        x.set(1, 1);
        check.due("rule 0", x.led(0), 1);
        x.set(1, 33);
        check.due("both faults leave none", x.led(0), 0);
        x.row(1, 1, 1);
        x.row(1, 1, 1);
        x.set(1, 129);
        check.due("two are needed", x.led(0), 129);
        check.due("rules stay", x.count(3), 255);
        check.due("faults stay", x.count(4), 129);
        x.set(0, 128);
        check.due("of those that are on", x.led(0), 128);
        x.set(0, 0);
        check.due("none is on", x.led(0), 0);
        Check.type(x, 0, ">a5");
        x.set(0, 255);
        x.set(1, 4 | 64);
        check.due("of like ones the least", x.led(6), 4);
        x.set(1, 4 | 64 | 1);
        check.due("with 0 it is no quarrel", x.led(6), 0);
        for (int law = 0; law < 7; law++) check.due("law " + law, x.led(law) == 0 ? 0 : 1, x.quarrels(0, law));
        x.empty();
        check.due("the empty table", x.led(6), 0);
    }

    private void ledRefuses() {
        GrownAsks x = new GrownAsks();
        Check.type(x, 1, "=an");
        for (int law : NO_LAWS) check.due("law " + law, x.led(law), -2);
        for (int law = 0; law < 7; law++) check.due("NOT", x.led(law), -3);
    }

    private void wrongIs(String told, GrownAsks x, int act, int row) {
        check.due(told + ": act", x.wrong(0, 0), act);
        check.due(told + ": row", x.wrong(0, 1), row);
    }

    private void wrong() {
        GrownAsks x = Check.with("!!!!=nn");
        x.set(1, 3);
        wrongIs("no rows", x, -1, -1);
        x.row(1, 1, 1);
        wrongIs("what it is of is wrong", x, 4, 0);
        x.set(1, 1);
        wrongIs("the innermost !", x, 3, 0);
        x.set(0, 254);
        wrongIs("the rule is off", x, -1, -1);
        x.set(0, 255);
        Check.type(x, 0, "&!=an?=bn");
        x.empty();
        x.row(N, 1, 1);
        x.row(2, N, 1);
        x.set(1, 2);
        wrongIs("= of two nothings", x, 2, 0);
        x.set(1, 3);
        wrongIs("! in a row, where = is as meant: row 1", x, 1, 1);
        x.set(1, 32);
        wrongIs("? in row 0", x, 3, 0);
        x.set(1, 34);
        wrongIs("the first act goes before the first row", x, 2, 0);
        Check.type(x, 0, "!=bn");
        x.set(1, 128);
        wrongIs("rule 7 is no act's", x, -1, -1);
        x.set(1, 1);
        wrongIs("row 0", x, 0, 0);
        Check.type(x, 0, "|!=bn=c1");
        x.set(1, 9);
        wrongIs("only what is in it must be as meant", x, 1, 0);
    }

    private void wrongRefuses() {
        GrownAsks x = Check.with("!=an");
        x.row(1, 1, 1);
        x.set(1, 1);
        Check.type(x, 1, "!!=an");
        check.due("of text 1", x.wrong(1, 0), 1);
        check.due("what 2", x.wrong(0, 2), -2);
        check.due("what -1", x.wrong(0, -1), -2);
        check.due("text 2", x.wrong(2, 0), -2);
        check.due("text -1", x.wrong(-1, 0), -2);
        x.wipe(1);
        check.due("NOT", x.wrong(1, 0), -3);
        check.due("NOT", x.wrong(1, 1), -3);
        check.due("BAD ahead of NOT", x.wrong(1, 2), -2);
    }
}
