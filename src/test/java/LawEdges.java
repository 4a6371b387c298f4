import java.util.Arrays;

/** 3 LAWS, Promises 19 to 22. */
final class LawEdges {
    private static final int N = -100, NONE = -1, BAD = -2, NOT = -3;
    private static final int MOST = Integer.MAX_VALUE, LEAST = Integer.MIN_VALUE;
    private static final int[] NO_TEXTS = {-1, 2, MOST, LEAST};
    private static final int[] NO_LAWS = {-1, 7, 32, MOST, LEAST};

    private static final String[] TESTS = {"=an", "!=an", "&=a1=bn", "|=a2=bn", "<ab", "?=bn", ">a5", "!>a5", "=11"};
    private static final int[][][] TABLES = {{{1, 1, 1}}, {{0, N, 0}}, {{N, N, 1}, {N, N, 1}},
        {{1, N, 2}, {1, N, 2}, {2, N, 3}}, {{4, N, 0}, {5, 1, 0}, {N, 2, 1}, {4, N, 0}}};

    private LawEdges() {
    }

    static void addTo(Edges edges) {
        edges.at("3 LAWS");
        edges.add("LAWS of a TEST p (all asked of THE ENGINE):", LawEdges::ofTheEngine);
        edges.add("0 THREE: MANY of p, of !p and of ?p are all ROWS together.", LawEdges::three);
        edges.add("1 ALONE: WHICH of p are just the ROWS in which p is yes when THE TABLE is that ROW alone.",
                LawEdges::alone);
        edges.add("2 MORE: without the last ROW MANY is not more.", LawEdges::more);
        edges.add("3 TWICE: WHICH of &pp is WHICH of p.", LawEdges::twice);
        edges.add("4 TURNED: WHICH of !!p is WHICH of p.", LawEdges::turned);
        edges.add("5 PARTS: TOTALS of each COLUMN by p, by !p and by ?p are together the sum of what is no NOTHING in it.",
                LawEdges::parts);
        edges.add("6 KINDS: KINDS of a COLUMN by p are no more than of |p?p and no less than of &p?!p .", LawEdges::kinds);
        edges.add("It QUARRELS with a LAW that does not hold.", LawEdges::doesNotHold);
        edges.add("(With THE TABLE empty none does, nor does 2.)", LawEdges::emptyTable);
        edges.add("CUT DOWN by a LAW with which TEXT 0 QUARRELS:", LawEdges::cutText0);
        edges.add("again and again, until nothing more can be done:", LawEdges::cutAgain);
        edges.add("the first ROW without which it still does is left out;", LawEdges::cutRows);
        edges.add("if there is none, the TEST becomes the first of the TESTS in it (by ACTS, from 1 on) by which it still does.",
                LawEdges::cutTests);
        edges.add("ROWS that stay; the TEST then.", LawEdges::cutThen);
        edges.add("LED: the fewest RULES", LawEdges::ledFewest);
        edges.add("(of those that are on)", LawEdges::ledOn);
        edges.add("which, turned off, leave no QUARREL with a LAW, of like ones the least as bits;", LawEdges::ledLeast);
        edges.add("0: it does not QUARREL;", LawEdges::ledNoQuarrel);
        edges.add("NONE: it does with all of them off.", LawEdges::ledNone);
        edges.add("WRONG: the first ACT, and the first ROW by it,", LawEdges::wrongFirst);
        edges.add("where THE ENGINE's yes, no, nothing is other than the MEANING,", LawEdges::wrongOther);
        edges.add("while all ACTS in it are as meant there.", LawEdges::wrongWhile);
        addPromises(edges);
    }

    private static void addPromises(Edges edges) {
        edges.at("Promise 19");
        edges.add("Whether a TEXT QUARRELS with a LAW: 1, 0.", LawEdges::quarrels);
        edges.add("BAD", LawEdges::quarrelsBad);
        edges.add("NOT.", LawEdges::quarrelsNot);
        edges.at("Promise 20");
        edges.add("CUT DOWN by a LAW: ROWS that stay, as bits (what = 0)", LawEdges::cutWhat0);
        edges.add("ACTS of the TEST then (1)", LawEdges::cutWhat1);
        edges.add("the ACT of TEXT 0 that it is (2).", LawEdges::cutWhat2);
        edges.add("BAD;", LawEdges::cutBad);
        edges.add("NOT: a FAULT,", LawEdges::cutFault);
        edges.add("or it does not QUARREL.", LawEdges::cutNoQuarrel);
        edges.at("Promise 21");
        edges.add("LED by a LAW; NONE.", LawEdges::led);
        edges.add("BAD", LawEdges::ledBad);
        edges.add("NOT.", LawEdges::ledNot);
        edges.at("Promise 22");
        edges.add("WRONG of a TEXT: the ACT (what = 0), the ROW (1);", LawEdges::wrong);
        edges.add("NONE: there is none.", LawEdges::wrongNone);
        edges.add("BAD", LawEdges::wrongBad);
        edges.add("NOT.", LawEdges::wrongNot);
    }

    private static GrownAsks made(String test, int faults, int[]... rows) {
        GrownAsks x = Check.with(test);
        for (int[] r : rows) x.row(r[0], r[1], r[2]);
        x.set(1, faults);
        return x;
    }

    /** LAWS with which TEXT 0 QUARRELS, as bits. */
    private static int quarrelsOf(GrownAsks x) {
        int bits = 0;
        for (int law = 0; law < 7; law++) bits |= x.quarrels(0, law) << law;
        return bits;
    }

    private static int which(String test, int faults, int[]... rows) {
        return made(test, faults, rows).which(0);
    }

    private static int tell(String test, int faults, int what, int column, int[]... rows) {
        return made(test, faults, rows).tell(0, what, column);
    }

    private interface Law {
        boolean holds(String p, int faults, int[][] rows);
    }

    /** That a LAW is held to just where it holds by what is answered to the TESTS that it speaks of. */
    private static void held(Check check, int number, Law law) {
        for (String p : TESTS) {
            for (int[][] rows : TABLES) {
                for (int one = 0; one < 9; one++) {
                    for (int other = 0; other <= one; other++) {
                        int faults = (1 << one | 1 << other) & 255;
                        check.due("LAW " + number + " of " + p + " with " + faults + " and "
                                + Arrays.deepToString(rows), made(p, faults, rows).quarrels(0, number),
                                law.holds(p, faults, rows) ? 0 : 1);
                    }
                }
            }
        }
    }

    private static void ofTheEngine(Check check) {
        GrownAsks x = made("=an", 1, new int[] {1, 2, 3});
        check.due("with FAULT 0", quarrelsOf(x), 1 | 32);
        x.set(0, 254);
        check.due("its RULE off", quarrelsOf(x), 0);
        x.set(0, 255);
        x.set(1, 0);
        check.due("as meant", quarrelsOf(x), 0);
    }

    private static void three(Check check) {
        held(check, 0, (p, f, rows) -> tell(p, f, 0, 0, rows) + tell("!" + p, f, 0, 0, rows)
                + tell("?" + p, f, 0, 0, rows) == rows.length);
        int[] row = {1, 2, 3};
        check.due("nothing, FAULT 0: one too many", made("=an", 1, row).quarrels(0, 0), 1);
        check.due("nothing, FAULT 5: one too few", made("=an", 32, row).quarrels(0, 0), 1);
        check.due("nothing, both: just one", made("=an", 33, row).quarrels(0, 0), 0);
        check.due("FAULT 5 is for < = >", made("&=an=an", 32, row).quarrels(0, 0), 0);
        check.due("yes twice, FAULT 7", made("=11", 128, row, row).quarrels(0, 0), 1);
        check.due("no twice, FAULT 7", made("=01", 128, row, row).quarrels(0, 0), 1);
        check.due("nothing twice, FAULT 7", made("=1n", 128, row, row).quarrels(0, 0), 1);
        check.due("nothing twice, FAULTS 0 and 7: two", made("=1n", 129, row, row).quarrels(0, 0), 0);
    }

    private static void alone(Check check) {
        held(check, 1, (p, f, rows) -> {
            int alone = 0;
            for (int i = 0; i < rows.length; i++) alone |= which(p, f, rows[i]) << i;
            return which(p, f, rows) == alone;
        });
        int[] row = {1, 2, 3}, unlike = {1, 2, 4};
        check.due("one ROW", made("=11", 128, row).quarrels(0, 1), 0);
        check.due("the same", made("=11", 128, row, row).quarrels(0, 1), 1);
        check.due("unlike", made("=11", 128, row, unlike).quarrels(0, 1), 0);
        check.due("the first and the last", made("=11", 128, row, unlike, row).quarrels(0, 1), 1);
        check.due("no twice", made("=01", 128, row, row).quarrels(0, 1), 0);
    }

    private static void more(Check check) {
        held(check, 2, (p, f, rows) -> tell(p, f, 0, 0, Arrays.copyOf(rows, rows.length - 1)) <= tell(p, f, 0, 0, rows));
        int[] row = {1, 2, 3};
        check.due("one ROW, yes", made("=11", 128, row).quarrels(0, 2), 0);
        check.due("one ROW, no", made("=01", 128, row).quarrels(0, 2), 0);
        check.due("the last is left out", made("=11", 128, row, row).quarrels(0, 2), 0);
    }

    private static void twice(Check check) {
        held(check, 3, (p, f, rows) -> which("&" + p + p, f, rows) == which(p, f, rows));
        check.due("nothing and nothing", made("=1n", 4, new int[] {1, 2, 3}).quarrels(0, 3), 0);
    }

    private static void turned(Check check) {
        held(check, 4, (p, f, rows) -> which("!!" + p, f, rows) == which(p, f, rows));
        check.due("nothing, yes, no", made("=1n", 1, new int[] {1, 2, 3}).quarrels(0, 4), 0);
    }

    private static void parts(Check check) {
        held(check, 5, (p, f, rows) -> {
            for (int c = 0; c < 3; c++) {
                int together = tell(p, f, 1, c, rows) + tell("!" + p, f, 1, c, rows) + tell("?" + p, f, 1, c, rows);
                if (together != tell("=00", 0, 1, c, rows)) return false;
            }
            return true;
        });
        int[][] rows = {{0, 0, 0}, {N, N, N}, {5, 0, N}, {N, -5, 0}, {0, N, 9}};
        for (int i = 0; i < rows.length; i++) {
            check.due("a TOTAL in ROW " + i, made("=1n", 1, rows[i]).quarrels(0, 5), i < 2 ? 0 : 1);
        }
        check.due("what is twice makes 0", made("=1n", 1, new int[] {5, 0, 0}, new int[] {-5, 0, 0}).quarrels(0, 5), 0);
    }

    private static void kinds(Check check) {
        held(check, 6, (p, f, rows) -> {
            for (int c = 0; c < 3; c++) {
                int kinds = tell(p, f, 2, c, rows);
                if (kinds > tell("|" + p + "?" + p, f, 2, c, rows)) return false;
                if (kinds < tell("&" + p + "?!" + p, f, 2, c, rows)) return false;
            }
            return true;
        });
        int[][] yes = {{5, 1, 0}, {1, 5, 0}, {1, 0, 5}};
        int[][] one = {{1, N, 0}, {N, 1, 0}, {N, 0, 1}};
        int[][] other = {{2, N, 0}, {N, 2, 0}, {N, 0, 2}};
        String[] tests = {"=b1", "=a1", "=a1"};
        for (int c = 0; c < 3; c++) {
            check.due("one of one in COLUMN " + c, made(tests[c], 4, yes[c], one[c]).quarrels(0, 6), 0);
            check.due("one of two in COLUMN " + c, made(tests[c], 4, yes[c], one[c], other[c]).quarrels(0, 6), 1);
            check.due("none of one in COLUMN " + c, made(tests[c], 4, one[c]).quarrels(0, 6), 1);
            check.due("without FAULT 2", made(tests[c], 251, yes[c], one[c], other[c]).quarrels(0, 6), 0);
        }
    }

    private static void doesNotHold(Check check) {
        int[] row = {1, 2, 3};
        check.due("none", quarrelsOf(made("=an", 0, row)), 0);
        check.due("0 and 5", quarrelsOf(made("=an", 1, row)), 1 | 32);
        check.due("0", quarrelsOf(made("=an", 1, new int[] {0, N, 0})), 1);
        check.due("6", quarrelsOf(made("=an", 4, row)), 64);
        check.due("0, 1 and 5", quarrelsOf(made("=a1", 128, row, row)), 1 | 2 | 32);
        check.due("0, 5 and 6", quarrelsOf(made("=a1", 132, new int[] {N, 1, 1}, new int[] {N, 1, 1})), 1 | 32 | 64);
    }

    private static void emptyTable(Check check) {
        for (String p : TESTS) {
            for (int faults = 0; faults < 256; faults += 51) {
                GrownAsks x = made(p, faults);
                check.due("no ROW ever, " + p, quarrelsOf(x), 0);
                for (int i = 0; i < 8; i++) x.row(1, N, 1);
                x.empty();
                check.due("no ROW any more, " + p, quarrelsOf(x), 0);
            }
        }
    }

    private static void cuts(Check check, String told, GrownAsks x, int law, int rows, int acts, int act) {
        check.due(told + ": ROWS", x.cut(law, 0), rows);
        check.due(told + ": ACTS", x.cut(law, 1), acts);
        check.due(told + ": ACT", x.cut(law, 2), act);
    }

    private static void cutText0(Check check) {
        GrownAsks x = made("=an", 1, new int[] {1, 2, 3});
        Check.type(x, 1, "=11");
        cuts(check, "of TEXT 0", x, 0, 1, 1, 0);
        Check.type(x, 0, "=11");
        Check.type(x, 1, "=an");
        check.due("not of TEXT 1", x.cut(0, 0), NOT);
    }

    private static void cutAgain(Check check) {
        GrownAsks x = made("!!!!=bn", 4);
        for (int i = 0; i < 8; i++) x.row(i, i, i);
        cuts(check, "ROWS seven times, TESTS four times", x, 6, 128, 1, 4);
        int[] row = {N, N, 1};
        cuts(check, "a ROW behind a TEST", made("!<b1", 160, row, row), 0, 2, 1, 1);
        GrownAsks full = State.FULL.make(0);
        full.set(1, 4);
        cuts(check, "as long as can be", full, 6, 128, 1, 37);
    }

    private static void cutRows(Check check) {
        GrownAsks x = made("=an", 1);
        for (int i = 0; i < 8; i++) x.row(i, 0, 0);
        cuts(check, "the last stays", x, 0, 128, 1, 0);
        x.put(7, 0, 0);
        cuts(check, "the last without which it does not", x, 5, 64, 1, 0);
        int[] one = {1, 0, 0}, two = {2, 0, 0};
        cuts(check, "the last two like ones", made("=a1", 128, one, two, one, two, one, one), 1, 48, 1, 0);
        cuts(check, "two that are not side by side", made("=a1", 128, one, two, two), 0, 6, 1, 0);
        cuts(check, "the first and the last", made("=a1", 128, one, two, one), 1, 5, 1, 0);
    }

    private static void cutTests(Check check) {
        int[] row = {1, 1, 1};
        cuts(check, "the first of two", made("|=an=bn", 1, row), 0, 1, 1, 1);
        cuts(check, "the second", made("&=11=bn", 1, row), 0, 1, 1, 2);
        cuts(check, "of those in it", made("&=11&=11=bn", 1, row), 0, 1, 1, 4);
        cuts(check, "the first in the second", made("&=11|=bn=cn", 1, row), 0, 1, 1, 3);
        cuts(check, "none", made("&=an=an", 33, row), 0, 1, 3, 0);
        int[] none = {N, N, 1}, some = {0, N, 1};
        cuts(check, "ROWS are left out ahead of TESTS", made("|=a1=b1", 1, none, some), 0, 2, 1, 2);
    }

    private static void cutThen(Check check) {
        int[] row = {1, 1, 1};
        GrownAsks x = made("|&=an=an=01", 33, row, row);
        long before = x.digest();
        cuts(check, "a TEST of three ACTS", x, 0, 2, 3, 1);
        check.due("nothing is changed by it", x.digest(), before);
        Check.type(x, 0, "&=an=an");
        cuts(check, "another TEST behind it", x, 0, 2, 3, 0);
    }

    private static void ledFewest(Check check) {
        int[] row = {1, N, 1};
        GrownAsks x = made("&!>bn=1c", 133, row, row);
        x.set(0, 255 & ~5);
        check.due("without 0 and 2 it does not QUARREL", x.quarrels(0, 1), 0);
        x.set(0, 255);
        check.due("one, not two that are less as bits", x.led(1), 128);
        int[] like = {1, 1, 1};
        GrownAsks y = made("=an", 129, like, like, like);
        check.due("two", y.led(0), 129);
        check.due("RULES stay", y.count(3), 255);
        check.due("FAULTS stay", y.count(4), 129);
    }

    private static void ledOn(Check check) {
        int[] like = {1, 1, 1};
        GrownAsks x = made("=an", 129, like, like, like);
        x.set(0, 128);
        check.due("just 7 is on", x.led(0), 128);
        x.set(0, 254);
        check.due("all but 0 are on", x.led(0), 128);
        x.set(0, 127);
        check.due("all but 7 are on", x.led(0), 1);
        x.set(0, 126);
        check.due("neither is on", x.led(0), 0);
    }

    private static void ledLeast(Check check) {
        GrownAsks x = made(">a5", 4 | 64, new int[] {1, 1, 1});
        x.set(0, 255 & ~64);
        check.due("6 would do", x.quarrels(0, 6), 0);
        x.set(0, 255);
        check.due("so does 2", x.led(6), 4);
        check.due("a RULE that is on without its FAULT is not in it", made("=an", 1, new int[] {1, 1, 1}).led(0), 1);
        check.due("of that LAW", made("=an", 1, new int[] {0, 0, 0}).led(5), 0);
    }

    private static void ledNoQuarrel(Check check) {
        GrownAsks x = made("=an", 33, new int[] {1, 1, 1});
        check.due("both FAULTS together", x.led(0), 0);
        x.set(1, 0);
        for (int law = 0; law < 7; law++) check.due("no FAULT", x.led(law), 0);
        x.empty();
        x.set(1, 255);
        for (int law = 0; law < 7; law++) check.due("THE TABLE empty", x.led(law), 0);
    }

    /** With all RULES off no LAW is broken, so NONE is never due; neither is 0 where it QUARRELS. */
    private static void ledNone(Check check) {
        for (String p : TESTS) {
            for (int[][] rows : TABLES) {
                for (int faults = 15; faults < 256; faults += 48) {
                    GrownAsks x = made(p, faults, rows);
                    for (int law = 0; law < 7; law++) {
                        int led = x.led(law);
                        check.due(p + " is led", led == 0 ? 0 : led > 0 ? 1 : NONE, x.quarrels(0, law));
                    }
                    x.set(0, 0);
                    check.due(p + " with all RULES off", quarrelsOf(x), 0);
                }
            }
        }
    }

    private static void wrongIs(Check check, String told, GrownAsks x, int act, int row) {
        check.due(told + ": ACT", x.wrong(0, 0), act);
        check.due(told + ": ROW", x.wrong(0, 1), row);
    }

    private static void wrongFirst(Check check) {
        int[] one = {N, 1, 1}, other = {1, N, 1};
        wrongIs(check, "both ACTS, the first", made("|!=a1!=b1", 1, one, other), 1, 0);
        wrongIs(check, "the first ACT, though in a later ROW", made("|!=a1!=b1", 1, other, one), 1, 1);
        wrongIs(check, "the first ROW", made("!=an", 1, one, other), 0, 0);
        wrongIs(check, "the last of eight", made("!=a1", 1, other, other, other, other, other, other, other, one), 0, 7);
        GrownAsks full = State.FULL.make(0);
        full.set(1, 1);
        wrongIs(check, "the innermost !", full, 36, 0);
    }

    private static void wrongOther(Check check) {
        int[] row = {1, N, 3};
        String[] tests = {"!<1n", "=bn", "&=11<1n", "|=01<1n", "<1a", "?<1b", ">c4"};
        for (int rule = 0; rule < 7; rule++) {
            GrownAsks x = made(tests[rule], 1 << rule, row);
            wrongIs(check, "RULE " + rule, x, 0, 0);
            x.set(0, 255 & ~(1 << rule));
            wrongIs(check, "RULE " + rule + " off", x, NONE, NONE);
        }
        wrongIs(check, "RULE 7 is at no ACT", made("=11", 128, row, row), NONE, NONE);
    }

    private static void wrongWhile(Check check) {
        int[] one = {N, 1, 1}, other = {2, N, 1};
        wrongIs(check, "what is in it is wrong there", made("!=an", 3, one), 1, 0);
        wrongIs(check, "but not in another ROW", made("!=an", 3, one, other), 0, 1);
        wrongIs(check, "the second in it", made("&=11=an", 6, one), 2, 0);
        wrongIs(check, "what is beside it does not matter", made("|!=bn=an", 3, one), 1, 0);
        wrongIs(check, "far in it", made("!!!!=nn", 3, one), 4, 0);
        wrongIs(check, "none in it is", made("!!!!=nn", 1, one), 3, 0);
    }

    private static void quarrels(Check check) {
        int[] row = {1, 2, 3};
        GrownAsks x = made("=an", 1, row);
        Check.type(x, 1, "=11");
        check.due("TEXT 0 with LAW 0", x.quarrels(0, 0), 1);
        check.due("TEXT 0 with LAW 6", x.quarrels(0, 6), 0);
        check.due("TEXT 1 with LAW 0", x.quarrels(1, 0), 0);
        Check.type(x, 1, "=an");
        x.set(1, 4);
        check.due("TEXT 1 with LAW 6", x.quarrels(1, 6), 1);
    }

    private static void quarrelsBad(Check check) {
        for (int text : NO_TEXTS) check.refuses(State.RICH, "quarrels(" + text + ", 0)", x -> x.quarrels(text, 0), BAD);
        for (int law : NO_LAWS) {
            check.refuses(State.RICH, "quarrels(0, " + law + ")", x -> x.quarrels(0, law), BAD);
            check.refuses(State.RICH, "quarrels(1, " + law + "), ahead of NOT", x -> x.quarrels(1, law), BAD);
        }
    }

    private static void quarrelsNot(Check check) {
        for (int law = 0; law < 7; law++) {
            int l = law;
            check.refuses(State.RICH, "quarrels(1, " + l + ")", x -> x.quarrels(1, l), NOT);
            check.refuses(State.BARE, "quarrels(0, " + l + ")", x -> x.quarrels(0, l), NOT);
            check.refuses(State.NEW, "quarrels(0, " + l + ")", x -> x.quarrels(0, l), NOT);
        }
    }

    /** RICH QUARRELS with LAW 1: ROWS 0 and 3 are the same, and FAULT 7 is put in. */
    private static void cutWhat0(Check check) {
        check.due("two ROWS", State.RICH.make(0).cut(1, 0), 9);
        GrownAsks x = made("=an", 1);
        for (int i = 0; i < 8; i++) x.row(1, 1, 1);
        check.due("the last ROW", x.cut(0, 0), 128);
    }

    private static void cutWhat1(Check check) {
        check.due("one", State.RICH.make(0).cut(1, 1), 1);
        check.due("three", made("&=an=an", 33, new int[] {1, 1, 1}).cut(0, 1), 3);
        check.due("three of five", made("|&=an=an=01", 33, new int[] {1, 1, 1}).cut(0, 1), 3);
    }

    private static void cutWhat2(Check check) {
        check.due("ACT 1", State.RICH.make(0).cut(1, 2), 1);
        check.due("itself", made("&=an=an", 33, new int[] {1, 1, 1}).cut(0, 2), 0);
        GrownAsks full = State.FULL.make(0);
        full.set(1, 4);
        check.due("the last", full.cut(6, 2), 37);
    }

    private static void cutBad(Check check) {
        for (int law : NO_LAWS) {
            check.refuses(State.RICH, "cut(" + law + ", 0)", x -> x.cut(law, 0), BAD);
            check.refuses(State.BARE, "cut(" + law + ", 0), ahead of NOT", x -> x.cut(law, 0), BAD);
        }
        for (int what : new int[] {-1, 3, MOST, LEAST}) {
            check.refuses(State.RICH, "cut(1, " + what + ")", x -> x.cut(1, what), BAD);
            check.refuses(State.BARE, "cut(1, " + what + "), ahead of NOT", x -> x.cut(1, what), BAD);
        }
    }

    private static void cutFault(Check check) {
        for (int law = 0; law < 7; law++) {
            for (int what = 0; what < 3; what++) {
                int l = law, w = what;
                check.refuses(State.BARE, "cut(" + l + ", " + w + ")", x -> x.cut(l, w), NOT);
                check.refuses(State.NEW, "cut(" + l + ", " + w + ")", x -> x.cut(l, w), NOT);
            }
        }
    }

    private static void cutNoQuarrel(Check check) {
        for (int what = 0; what < 3; what++) {
            int w = what;
            check.refuses(State.RICH, "cut(3, " + w + ")", x -> x.cut(3, w), NOT);
            check.refuses(State.FULL, "cut(0, " + w + ")", x -> x.cut(0, w), NOT);
            check.due("THE TABLE empty", made("=an", 255).cut(0, w), NOT);
            GrownAsks off = State.RICH.make(0);
            off.set(0, 127);
            check.due("RULE 7 off, by whose FAULT alone it did", off.cut(1, w), NOT);
        }
        for (int law = 0; law < 7; law++) {
            int l = law;
            check.refuses(State.FULL, "cut(" + l + ", 3): BAD, though it does not QUARREL", x -> x.cut(l, 3), BAD);
        }
        GrownAsks x = made("=an", 33, new int[] {1, 1, 1});
        check.due("both FAULTS together", x.cut(0, 0), NOT);
        x.set(0, 255 & ~32);
        cuts(check, "RULE 5 off", x, 0, 1, 1, 0);
        x.set(0, 255 & ~33);
        check.due("both RULES off", x.cut(0, 0), NOT);
    }

    private static void led(Check check) {
        check.due("RICH by LAW 1", State.RICH.make(0).led(1), 128);
        check.due("RICH by LAW 3", State.RICH.make(0).led(3), 0);
        check.due("0 and 5", made("=an", 1, new int[] {1, 1, 1}).led(5), 1);
    }

    private static void ledBad(Check check) {
        for (int law : NO_LAWS) {
            check.refuses(State.RICH, "led(" + law + ")", x -> x.led(law), BAD);
            check.refuses(State.BARE, "led(" + law + "), ahead of NOT", x -> x.led(law), BAD);
        }
    }

    private static void ledNot(Check check) {
        for (int law = 0; law < 7; law++) {
            int l = law;
            check.refuses(State.BARE, "led(" + l + ")", x -> x.led(l), NOT);
            check.refuses(State.NEW, "led(" + l + ")", x -> x.led(l), NOT);
        }
    }

    private static void wrong(Check check) {
        GrownAsks x = made("=11", 1, new int[] {1, 1, 1}, new int[] {N, 1, 1});
        Check.type(x, 1, "!!=a1");
        check.due("ACT of TEXT 1", x.wrong(1, 0), 1);
        check.due("ROW of TEXT 1", x.wrong(1, 1), 1);
        check.due("ACT of TEXT 0", x.wrong(0, 0), NONE);
    }

    private static void wrongNone(Check check) {
        wrongIs(check, "no FAULT", made("!=an", 0, new int[] {1, 1, 1}), NONE, NONE);
        wrongIs(check, "none that is done", made("!=an", 254, new int[] {1, 1, 1}), NONE, NONE);
        wrongIs(check, "no ROW", made("!=an", 255), NONE, NONE);
    }

    private static void wrongBad(Check check) {
        for (int text : NO_TEXTS) check.refuses(State.RICH, "wrong(" + text + ", 0)", x -> x.wrong(text, 0), BAD);
        for (int what : new int[] {-1, 2, MOST, LEAST}) {
            check.refuses(State.RICH, "wrong(0, " + what + ")", x -> x.wrong(0, what), BAD);
            check.refuses(State.RICH, "wrong(1, " + what + "), ahead of NOT", x -> x.wrong(1, what), BAD);
        }
    }

    private static void wrongNot(Check check) {
        for (int what = 0; what < 2; what++) {
            int w = what;
            check.refuses(State.RICH, "wrong(1, " + w + ")", x -> x.wrong(1, w), NOT);
            check.refuses(State.BARE, "wrong(0, " + w + ")", x -> x.wrong(0, w), NOT);
            check.refuses(State.NEW, "wrong(0, " + w + ")", x -> x.wrong(0, w), NOT);
        }
    }
}
