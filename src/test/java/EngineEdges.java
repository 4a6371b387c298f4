/** 2 THE ENGINE, Promises 14 to 18. */
final class EngineEdges {
    private static final int N = -100, BAD = -2, NOT = -3;
    private static final int BAD_TELL = -1000, NOT_TELL = -1001;
    private static final int MOST = Integer.MAX_VALUE, LEAST = Integer.MIN_VALUE;
    private static final int[] NO_TEXTS = {-1, 2, MOST, LEAST};

    /** No, yes and nothing as TESTS in any ROW, by their numbers; no RULE fires at them. */
    private static final String[] TESTS = {"=01", "=11", "<1n"};

    /** Fires all RULES with two ROWS (1, 1, 1). */
    private static final String ALL_RULES = "||&!<na=11<aa|=nn|?<na>a9";

    /** A TEST that fires just the RULE of its place in a ROW (1, N, 3): what is meant, with its FAULT. */
    private static final String[] EACH_RULE = {"!<1n", "=bn", "&=11<1n", "|=01<1n", "<1a", "?<1b", ">c4"};
    private static final int[] MEANT = {2, 2, 2, 2, 0, 1, 0};
    private static final int[] WITH_FAULT = {1, 1, 1, 0, 1, 0, 2};

    private EngineEdges() {
    }

    static void addTo(Edges edges) {
        edges.at("2 THE ENGINE");
        edges.add("THE ENGINE has RULES 0 .. 7, each on or off (all on at first)", EngineEdges::rulesAtFirst);
        edges.add("and FAULTS 0 .. 7 put in (bits; none at first).", EngineEdges::faultsAtFirst);
        edges.add("A FAULT is done only where its RULE is on", EngineEdges::doneWhereOn);
        edges.add("RULE 0 FIRES at ! of nothing; with FAULT 0 that is yes.", EngineEdges::rule0);
        edges.add("1: at = of two NOTHINGS; with it yes.", EngineEdges::rule1);
        edges.add("2: at & of yes and nothing (in either order); with it yes.", EngineEdges::rule2);
        edges.add("3: at | of nothing and no (likewise); with it no.", EngineEdges::rule3);
        edges.add("4: at < of two like numbers, the second of which is a COLUMN; with it yes.", EngineEdges::rule4);
        edges.add("5: at ? of nothing, where what it is of is < = >; with it no.", EngineEdges::rule5);
        edges.add("6: at > of a COLUMN and a number that is told (figure, - figure) and is above it; with it nothing.",
                EngineEdges::rule6);
        edges.add("7: where two ROWS in which a TEST is yes", EngineEdges::rule7Yes);
        edges.add("(as THE ENGINE has it)", EngineEdges::rule7AsHad);
        edges.add("are the same in all COLUMNS", EngineEdges::rule7Same);
        edges.add("with it the second is left out of what it answers.", EngineEdges::rule7LeftOut);
        edges.add("THE ENGINE's answer WHICH of a TEST: ROWS in which it is yes so, as bits.", EngineEdges::whichBits);
        edges.add("FIRED: RULES that are on", EngineEdges::firedOn);
        edges.add("and FIRE at some ACT in some ROW (or for 7 at some two) when it answers, as bits.",
                EngineEdges::firedSome);
        edges.add("MANY: how many ROWS are in it.", EngineEdges::many);
        edges.add("TOTAL of a COLUMN: the sum of what is no NOTHING there in these ROWS", EngineEdges::total);
        edges.add("(0 of none)", EngineEdges::totalOfNone);
        edges.add("KINDS of a COLUMN: how many unlike things there are in these ROWS", EngineEdges::kinds);
        edges.add("all NOTHINGS being one.", EngineEdges::kindsOfNothings);
        addPromises(edges);
    }

    private static void addPromises(Edges edges) {
        edges.at("Promise 14");
        edges.add("RULES that are on (what = 0), FAULTS put in (1), as bits (0 to 255): what they were.", EngineEdges::set);
        edges.add("BAD.", EngineEdges::setBad);
        edges.at("Promise 15");
        edges.add("What THE ENGINE has for an ACT of a TEXT in a ROW: 0, 1, 2.", EngineEdges::has);
        edges.add("BAD", EngineEdges::hasBad);
        edges.add("(an ACT beyond those that there are: behind NOT)", EngineEdges::hasBeyond);
        edges.add("NOT.", EngineEdges::hasNot);
        edges.at("Promise 16");
        edges.add("WHICH of a TEXT.", EngineEdges::which);
        edges.add("BAD", EngineEdges::whichBad);
        edges.add("NOT.", EngineEdges::whichNot);
        edges.at("Promise 17");
        edges.add("FIRED by a TEXT.", EngineEdges::fired);
        edges.add("BAD", EngineEdges::firedBad);
        edges.add("NOT.", EngineEdges::firedNot);
        edges.at("Promise 18");
        edges.add("Of a TEXT: MANY (what = 0;", EngineEdges::tellMany);
        edges.add("the COLUMN must be one, too)", EngineEdges::tellManyColumn);
        edges.add("TOTAL of a COLUMN (1)", EngineEdges::tellTotal);
        edges.add("KINDS (2).", EngineEdges::tellKinds);
        edges.add("BAD: -1000;", EngineEdges::tellBad);
        edges.add("NOT: -1001.", EngineEdges::tellNot);
        edges.add("BAD: -1000; NOT: -1001.", EngineEdges::tellOrder);
    }

    private static void rulesAtFirst(Check check) {
        GrownAsks x = new GrownAsks();
        check.due("on at first", x.count(3), 255);
        for (int rule = 0; rule < 8; rule++) {
            check.due("off", x.set(0, 255 & ~(1 << rule)), 255);
            check.due("on", x.set(0, 255), 255 & ~(1 << rule));
        }
        check.due("there is no RULE 8", x.set(0, 256), BAD);
        GrownAsks y = Check.with(ALL_RULES);
        for (int i = 0; i < 2; i++) y.row(1, 1, 1);
        check.due("all on, all fire", y.fired(0), 255);
    }

    private static void faultsAtFirst(Check check) {
        GrownAsks x = new GrownAsks();
        check.due("none at first", x.count(4), 0);
        for (int fault = 0; fault < 8; fault++) {
            check.due("in", x.set(1, 1 << fault), 0);
            check.due("out", x.set(1, 0), 1 << fault);
        }
        check.due("there is no FAULT 8", x.set(1, 256), BAD);
        for (int rule = 0; rule < 7; rule++) {
            GrownAsks y = Check.with(EACH_RULE[rule]);
            y.row(1, N, 3);
            check.due(EACH_RULE[rule] + " at first", y.has(0, 0, 0), MEANT[rule]);
        }
    }

    private static void doneWhereOn(Check check) {
        for (int rule = 0; rule < 7; rule++) {
            GrownAsks x = Check.with(EACH_RULE[rule]);
            x.row(1, N, 3);
            int bit = 1 << rule;
            check.due(EACH_RULE[rule] + " fires", x.fired(0), bit);
            x.set(1, bit);
            check.due(EACH_RULE[rule] + " on, in", x.has(0, 0, 0), WITH_FAULT[rule]);
            x.set(0, bit);
            check.due(EACH_RULE[rule] + " alone on, in", x.has(0, 0, 0), WITH_FAULT[rule]);
            x.set(0, 255 & ~bit);
            check.due(EACH_RULE[rule] + " off, in", x.has(0, 0, 0), MEANT[rule]);
            x.set(0, 255);
            x.set(1, 255 & ~bit);
            check.due(EACH_RULE[rule] + " on, the others in", x.has(0, 0, 0), MEANT[rule]);
        }
        GrownAsks x = Check.with("=11");
        for (int i = 0; i < 2; i++) x.row(1, 1, 1);
        int[][] due = {{255, 128, 1}, {128, 128, 1}, {127, 128, 3}, {255, 127, 3}};
        for (int[] d : due) {
            x.set(0, d[0]);
            x.set(1, d[1]);
            check.due("RULES " + d[0] + ", FAULTS " + d[1], x.which(0), d[2]);
        }
    }

    /** Of a TEST in one ROW: whether a RULE fires at its first ACT, and what that is with the FAULT. */
    private static void fires(Check check, int rule, String test, int[] row, boolean fires, int with) {
        GrownAsks x = Check.with(test);
        x.row(row[0], row[1], row[2]);
        String told = test + " of " + row[0] + " " + row[1] + " " + row[2];
        int meant = x.means(0, 0, 0);
        check.due(told + " fires " + rule, x.fired(0) >> rule & 1, fires ? 1 : 0);
        check.due(told + " without the FAULT", x.has(0, 0, 0), meant);
        x.set(1, 1 << rule);
        check.due(told + " with the FAULT", x.has(0, 0, 0), fires ? with : meant);
        check.due(told + " fires " + rule + " with it, too", x.fired(0) >> rule & 1, fires ? 1 : 0);
        check.due(told + " is meant so", x.means(0, 0, 0), meant);
    }

    private static final int[] ANY_ROW = {1, 1, 1};

    private static void rule0(Check check) {
        for (int v = 0; v < 3; v++) fires(check, 0, "!" + TESTS[v], ANY_ROW, v == 2, 1);
        fires(check, 0, "!&<1n<1n", ANY_ROW, true, 1);
        for (int v = 0; v < 3; v++) fires(check, 0, "?" + TESTS[v], ANY_ROW, false, 1);
    }

    private interface Fires {
        boolean at(char sign, String left, String right, int l, int r);
    }

    /** All < = > of all kinds of TERMS, in ROWS in which they are less, like, more and NOTHING. */
    private static void compares(Check check, int rule, int with, Fires fires) {
        String[] terms = {"a", "b", "c", "3", "-3", "0", "-0", "n"};
        int[][] rows = {{3, 3, -3}, {0, N, 3}, {N, N, 0}, {4, 2, -4}, {-9, 9, 0}};
        for (int[] row : rows) {
            for (String left : terms) {
                for (String right : terms) {
                    for (char sign : new char[] {'<', '=', '>'}) {
                        boolean fire = fires.at(sign, left, right, value(left, row), value(right, row));
                        fires(check, rule, sign + left + right, row, fire, with);
                    }
                }
            }
        }
    }

    private static boolean isColumn(String term) {
        return term.equals("a") || term.equals("b") || term.equals("c");
    }

    private static int value(String term, int[] row) {
        if (isColumn(term)) return row[term.charAt(0) - 'a'];
        return term.equals("n") ? N : Integer.parseInt(term);
    }

    private static void rule1(Check check) {
        compares(check, 1, 1, (sign, left, right, l, r) -> sign == '=' && l == N && r == N);
    }

    private static void joins(Check check, int rule, String sign, int one, int with) {
        for (int v = 0; v < 3; v++) {
            for (int w = 0; w < 3; w++) {
                boolean fire = v == one && w == 2 || v == 2 && w == one;
                fires(check, rule, sign + TESTS[v] + TESTS[w], ANY_ROW, fire, with);
                fires(check, rule, (sign.equals("&") ? "|" : "&") + TESTS[v] + TESTS[w], ANY_ROW, false, with);
            }
        }
    }

    private static void rule2(Check check) {
        joins(check, 2, "&", 1, 1);
    }

    private static void rule3(Check check) {
        joins(check, 3, "|", 0, 0);
    }

    private static void rule4(Check check) {
        compares(check, 4, 1, (sign, left, right, l, r) -> sign == '<' && l == r && l != N && isColumn(right));
    }

    private static void rule5(Check check) {
        for (String of : new String[] {"<", "=", ">"}) {
            fires(check, 5, "?" + of + "1n", ANY_ROW, true, 0);
            fires(check, 5, "?" + of + "12", ANY_ROW, false, 0);
            fires(check, 5, "?" + of + "21", ANY_ROW, false, 0);
            fires(check, 5, "?!" + of + "1n", ANY_ROW, false, 0);
            fires(check, 5, "?&" + of + "1n=11", ANY_ROW, false, 0);
            fires(check, 5, "?|=01" + of + "1n", ANY_ROW, false, 0);
            fires(check, 5, "!" + of + "1n", ANY_ROW, false, 0);
        }
        GrownAsks x = Check.with("??=1n");
        x.row(1, 1, 1);
        x.set(1, 32);
        check.due("the outer ? is of no then", x.has(0, 0, 0), 0);
        check.due("the inner ? is no", x.has(0, 1, 0), 0);
    }

    private static void rule6(Check check) {
        compares(check, 6, 2, (sign, left, right, l, r) ->
                sign == '>' && isColumn(left) && l != N && !isColumn(right) && r != N && r > l);
    }

    private static GrownAsks rows(String test, int[]... rows) {
        GrownAsks x = Check.with(test);
        for (int[] r : rows) x.row(r[0], r[1], r[2]);
        return x;
    }

    private static void rule7Yes(Check check) {
        int[] same = {1, 2, 3};
        check.due("yes in both", rows("=11", same, same).fired(0), 128);
        check.due("no in both", rows("=01", same, same).fired(0), 0);
        check.due("nothing in both", rows("<1n", same, same).fired(0), 0);
        check.due("one ROW alone", rows("=11", same).fired(0), 0);
        check.due("no ROW", rows("=11").fired(0), 0);
        GrownAsks x = rows("=01", same, same);
        x.set(1, 128);
        Check.type(x, 1, "!=01");
        check.due("of which it is not yes", x.which(0), 0);
        check.due("of which it is", x.which(1), 1);
        check.due("a yes in it alone is none", rows("!=11", same, same).fired(0), 0);
    }

    private static void rule7AsHad(Check check) {
        int[] same = {1, 2, 3};
        GrownAsks x = rows("!<1n", same, same);
        check.due("nothing", x.fired(0), 1);
        x.set(1, 1);
        check.due("yes by FAULT 0", x.fired(0), 129);
        x.set(1, 129);
        check.due("the second is left out", x.which(0), 1);
        GrownAsks y = rows("?<1n", same, same);
        check.due("yes", y.fired(0), 32 | 128);
        y.set(1, 32);
        check.due("no by FAULT 5", y.fired(0), 32);
    }

    private static void rule7Same(Check check) {
        int[][] pairs = {{1, 2, 3, 1, 2, 3, 1}, {1, 2, 3, 0, 2, 3, 0}, {1, 2, 3, 1, 0, 3, 0}, {1, 2, 3, 1, 2, 0, 0},
            {N, N, N, N, N, N, 1}, {N, 2, 3, N, 2, 3, 1}, {N, 2, 3, 0, 2, 3, 0}, {1, 2, N, 1, 2, -9, 0}};
        for (int[] p : pairs) {
            GrownAsks x = rows("=11", new int[] {p[0], p[1], p[2]}, new int[] {p[3], p[4], p[5]});
            check.due("fired", x.fired(0), p[6] * 128);
            x.set(1, 128);
            check.due("which", x.which(0), p[6] == 1 ? 1 : 3);
        }
        GrownAsks x = rows("=11", new int[] {1, 2, 3}, new int[] {1, 2, 4});
        x.put(1, 2, 3);
        check.due("the same by put()", x.fired(0), 128);
        x.put(0, 0, 0);
        check.due("unlike by put()", x.fired(0), 0);
    }

    private static void rule7LeftOut(Check check) {
        int[] one = {1, 2, 3}, other = {1, 2, 4};
        GrownAsks x = rows("=a1", one, other, one, one, other, new int[] {9, 9, 9}, other, one);
        check.due("without it", x.which(0), 255 - 32);
        x.set(1, 128);
        check.due("the first of each stays", x.which(0), 1 | 2);
        check.due("MANY", x.tell(0, 0, 0), 2);
        check.due("TOTAL", x.tell(0, 1, 2), 7);
        check.due("yes is still had", x.has(0, 0, 7), 1);
        x.put(0, 0, 0);
        check.due("the next one is the first now", x.which(0), 2 | 4);
        GrownAsks y = new GrownAsks();
        for (int i = 0; i < 8; i++) y.row(1, 1, 1);
        Check.type(y, 0, "=11");
        y.set(1, 128);
        check.due("of eight like ones", y.which(0), 1);
    }

    private static void whichBits(Check check) {
        GrownAsks x = rows("=an");
        check.due("of no ROWS", x.which(0), 0);
        for (int i = 0; i < 8; i++) x.row(i == 7 ? N : i, i, 0);
        check.due("none", x.which(0), 0);
        x.set(1, 2);
        check.due("the last", x.which(0), 128);
        Check.type(x, 0, "=00");
        check.due("all", x.which(0), 255);
        Check.type(x, 0, "!=a0");
        check.due("nothing is not yes", x.which(0), 126);
    }

    private static void firedOn(Check check) {
        for (int rules = 0; rules < 256; rules += 5) {
            GrownAsks x = Check.with(ALL_RULES);
            for (int i = 0; i < 2; i++) x.row(1, 1, 1);
            x.set(0, rules);
            check.due("fired with " + rules, x.fired(0), rules);
        }
    }

    private static void firedSome(Check check) {
        GrownAsks x = Check.with("!=a1");
        check.due("no ROW", x.fired(0), 0);
        for (int i = 0; i < 7; i++) x.row(1, i, 0);
        check.due("none", x.fired(0), 0);
        x.row(N, 0, 0);
        check.due("in the last ROW", x.fired(0), 1);
        x.put(7, 0, 1);
        check.due("at the first and the last ROW, but no yes", x.fired(0), 0);
        Check.type(x, 0, "=a1");
        check.due("at the first and the last ROW", x.fired(0), 128);
        x.put(7, 1, 7);
        Check.type(x, 0, "&=01&=01|=11!=1n");
        check.due("at the last ACTS, of which nothing hangs", x.fired(0), 1);
        Check.type(x, 0, ALL_RULES);
        check.due("7 is of two", x.fired(0), 127);
        x.put(7, 1, 0);
        check.due("as bits", x.fired(0), 255);
    }

    private static void many(Check check) {
        GrownAsks x = Check.with("=11");
        check.due("of no ROWS", x.tell(0, 0, 0), 0);
        for (int i = 0; i < 8; i++) x.row(1, 1, i / 2);
        check.due("all", x.tell(0, 0, 0), 8);
        x.set(1, 128);
        check.due("those that are in it", x.tell(0, 0, 0), 4);
        Check.type(x, 0, "=01");
        check.due("none", x.tell(0, 0, 0), 0);
    }

    private static void total(Check check) {
        GrownAsks x = Check.with("=11");
        for (int i = 0; i < 8; i++) x.row(9, -9, i < 7 ? N : 5);
        check.due("the most", x.tell(0, 1, 0), 72);
        check.due("the least", x.tell(0, 1, 1), -72);
        check.due("NOTHINGS are not in it", x.tell(0, 1, 2), 5);
        x.put(7, 2, N);
        check.due("NOTHINGS alone", x.tell(0, 1, 2), 0);
        x.set(1, 128);
        check.due("in these ROWS", x.tell(0, 1, 0), 9);
        ofOneRow(check, 1);
    }

    private static void totalOfNone(Check check) {
        GrownAsks x = Check.with("=01");
        for (int column = 0; column < 3; column++) check.due("of no ROWS", x.tell(0, 1, column), 0);
        x.row(5, 6, 7);
        for (int column = 0; column < 3; column++) check.due("of none", x.tell(0, 1, column), 0);
    }

    private static void kinds(Check check) {
        GrownAsks x = Check.with("=11");
        check.due("of no ROWS", x.tell(0, 2, 0), 0);
        for (int i = 0; i < 8; i++) x.row(i, i % 2 == 0 ? -9 : 9, 4);
        check.due("eight", x.tell(0, 2, 0), 8);
        check.due("two", x.tell(0, 2, 1), 2);
        check.due("one", x.tell(0, 2, 2), 1);
        Check.type(x, 0, "<a2");
        check.due("in these ROWS", x.tell(0, 2, 0), 2);
        Check.type(x, 0, "=01");
        check.due("none", x.tell(0, 2, 0), 0);
        for (int v = -9; v <= 9; v++) {
            for (int w = -9; w <= 9; w++) twoThings(check, v, w);
        }
        ofOneRow(check, 2);
    }

    /** TOTAL (1) or KINDS (2) of each COLUMN by each ROW alone, of one to eight. */
    private static void ofOneRow(Check check, int what) {
        for (int rows = 1; rows <= 8; rows++) {
            GrownAsks x = new GrownAsks();
            for (int i = 0; i < rows; i++) x.row(i + 1, -i - 1, 9 - i);
            for (int i = 0; i < rows; i++) {
                Check.type(x, 0, "=a" + (i + 1));
                for (int column = 0; column < 3; column++) {
                    check.due("by ROW " + i + " of " + rows + " in COLUMN " + column, x.tell(0, what, column),
                            what == 1 ? x.at(i, column) : 1);
                }
            }
        }
    }

    private static void twoThings(Check check, int v, int w) {
        GrownAsks x = rows("=11", new int[] {v, 0, 0}, new int[] {w, 0, 0});
        check.due(v + " and " + w, x.tell(0, 2, 0), v == w ? 1 : 2);
    }

    private static void kindsOfNothings(Check check) {
        GrownAsks x = Check.with("=11");
        for (int i = 0; i < 8; i++) x.row(N, i < 4 ? N : -9, i < 4 ? N : i);
        check.due("NOTHINGS alone", x.tell(0, 2, 0), 1);
        check.due("NOTHINGS and -9", x.tell(0, 2, 1), 2);
        check.due("NOTHINGS and four", x.tell(0, 2, 2), 5);
        x.put(0, 1, 0);
        check.due("NOTHINGS, -9 and 0", x.tell(0, 2, 1), 3);
        for (int v = -9; v <= 9; v++) twoThings(check, N, v);
        twoThings(check, N, N);
    }

    private static void set(Check check) {
        GrownAsks x = new GrownAsks();
        check.due("RULES were", x.set(0, 0), 255);
        check.due("RULES were", x.set(0, 170), 0);
        check.due("FAULTS were", x.set(1, 255), 0);
        check.due("FAULTS were", x.set(1, 1), 255);
        check.due("RULES", x.count(3), 170);
        check.due("FAULTS", x.count(4), 1);
        check.due("RULES were", x.set(0, 255), 170);
        check.due("FAULTS were", x.set(1, 0), 1);
    }

    private static void setBad(Check check) {
        for (int what : new int[] {-1, 2, MOST, LEAST}) {
            check.refuses(State.RICH, "set(" + what + ", 0)", x -> x.set(what, 0), BAD);
        }
        for (int bits : new int[] {-1, 256, MOST, LEAST}) {
            check.refuses(State.RICH, "set(0, " + bits + ")", x -> x.set(0, bits), BAD);
            check.refuses(State.RICH, "set(1, " + bits + ")", x -> x.set(1, bits), BAD);
        }
    }

    private static void has(Check check) {
        GrownAsks x = rows("&!<ab|=a1>c0", new int[] {N, 0, 0}, new int[] {5, 5, 5});
        x.set(1, 17);
        int[][] due = {{2, 0}, {1, 0}, {2, 1}, {2, 1}, {2, 0}, {0, 1}};
        for (int act = 0; act < 6; act++) {
            for (int row = 0; row < 2; row++) check.due("has " + act + " " + row, x.has(0, act, row), due[act][row]);
        }
        GrownAsks y = State.FULL.make(0);
        y.set(1, 1);
        check.due("the last ACT", y.has(0, 37, 7), 2);
        check.due("the one ahead", y.has(0, 36, 7), 1);
        check.due("the first", y.has(0, 0, 7), 1);
        check.due("of TEXT 1", State.BARE.make(0).has(1, 3, 3), 2);
    }

    private static void hasBad(Check check) {
        for (int text : NO_TEXTS) check.refuses(State.RICH, "has(" + text + ", 0, 0)", x -> x.has(text, 0, 0), BAD);
        for (int act : new int[] {-1, 4, 8, 40, MOST, LEAST}) {
            check.refuses(State.RICH, "has(0, " + act + ", 0)", x -> x.has(0, act, 0), BAD);
        }
        for (int row : new int[] {-1, 4, 8, 32, MOST, LEAST}) {
            check.refuses(State.RICH, "has(0, 0, " + row + ")", x -> x.has(0, 0, row), BAD);
        }
        check.due("without ROWS", Check.with("<ab").has(0, 0, 0), BAD);
        check.refuses(State.FULL, "has(0, 38, 0)", x -> x.has(0, 38, 0), BAD);
        check.refuses(State.FULL, "has(0, 0, 8)", x -> x.has(0, 0, 8), BAD);
    }

    private static void hasBeyond(Check check) {
        for (int act : new int[] {1, 4, 40, 41, MOST}) {
            check.refuses(State.RICH, "has(1, " + act + ", 0)", x -> x.has(1, act, 0), NOT);
        }
        check.refuses(State.RICH, "has(1, -1, 0)", x -> x.has(1, -1, 0), BAD);
        check.refuses(State.RICH, "has(1, 4, 4)", x -> x.has(1, 4, 4), BAD);
        check.refuses(State.RICH, "has(2, 4, 0)", x -> x.has(2, 4, 0), BAD);
    }

    private static void hasNot(Check check) {
        check.refuses(State.RICH, "has(1, 0, 0)", x -> x.has(1, 0, 0), NOT);
        check.refuses(State.BARE, "has(0, 0, 3)", x -> x.has(0, 0, 3), NOT);
        check.refuses(State.RICH, "has(1, 0, 4)", x -> x.has(1, 0, 4), BAD);
        check.refuses(State.NEW, "has(0, 0, 0)", x -> x.has(0, 0, 0), BAD);
    }

    private static void which(Check check) {
        GrownAsks x = State.RICH.make(0);
        check.due("of TEXT 0, the second like one left out", x.which(0), 7);
        x.set(1, 0);
        check.due("of TEXT 0", x.which(0), 15);
        check.due("of TEXT 1", State.BARE.make(0).which(1), 7);
    }

    private static void whichBad(Check check) {
        for (int text : NO_TEXTS) check.refuses(State.RICH, "which(" + text + ")", x -> x.which(text), BAD);
    }

    private static void whichNot(Check check) {
        check.refuses(State.RICH, "which(1)", x -> x.which(1), NOT);
        check.refuses(State.BARE, "which(0)", x -> x.which(0), NOT);
        check.refuses(State.NEW, "which(0)", x -> x.which(0), NOT);
    }

    private static void fired(Check check) {
        check.due("of TEXT 0", State.RICH.make(0).fired(0), 2 | 32 | 128);
        check.due("of TEXT 1", State.BARE.make(0).fired(1), 2 | 32 | 128);
        check.due("of no ROWS", Check.with("!=nn").fired(0), 0);
    }

    private static void firedBad(Check check) {
        for (int text : NO_TEXTS) check.refuses(State.RICH, "fired(" + text + ")", x -> x.fired(text), BAD);
    }

    private static void firedNot(Check check) {
        check.refuses(State.RICH, "fired(1)", x -> x.fired(1), NOT);
        check.refuses(State.BARE, "fired(0)", x -> x.fired(0), NOT);
        check.refuses(State.NEW, "fired(0)", x -> x.fired(0), NOT);
    }

    private static void tellMany(Check check) {
        for (int column = 0; column < 3; column++) {
            check.due("of TEXT 0", State.RICH.make(0).tell(0, 0, column), 3);
            check.due("of TEXT 1", State.BARE.make(0).tell(1, 0, column), 3);
        }
    }

    private static void tellManyColumn(Check check) {
        for (int column : new int[] {-1, 3, MOST, LEAST}) {
            check.refuses(State.RICH, "tell(0, 0, " + column + ")", x -> x.tell(0, 0, column), BAD_TELL);
        }
    }

    private static void tellTotal(Check check) {
        int[] due = {3, 3, 0};
        for (int column = 0; column < 3; column++) {
            check.due("of TEXT 0", State.RICH.make(0).tell(0, 1, column), due[column]);
            check.due("of TEXT 1", State.BARE.make(0).tell(1, 1, column), due[column]);
        }
        GrownAsks x = rows("=11", new int[] {-2, -3, -1});
        for (int column = 0; column < 3; column++) {
            check.due("no refusal", x.tell(0, 1, column), x.at(0, column));
        }
    }

    private static void tellKinds(Check check) {
        int[] due = {3, 2, 1};
        for (int column = 0; column < 3; column++) {
            check.due("of TEXT 0", State.RICH.make(0).tell(0, 2, column), due[column]);
            check.due("of TEXT 1", State.BARE.make(0).tell(1, 2, column), due[column]);
        }
    }

    private static void tellBad(Check check) {
        for (int text : NO_TEXTS) {
            check.refuses(State.RICH, "tell(" + text + ", 0, 0)", x -> x.tell(text, 0, 0), BAD_TELL);
        }
        for (int what : new int[] {-1, 3, MOST, LEAST}) {
            check.refuses(State.RICH, "tell(0, " + what + ", 0)", x -> x.tell(0, what, 0), BAD_TELL);
        }
        for (int column : new int[] {-1, 3, MOST, LEAST}) {
            check.refuses(State.RICH, "tell(0, 1, " + column + ")", x -> x.tell(0, 1, column), BAD_TELL);
            check.refuses(State.RICH, "tell(0, 2, " + column + ")", x -> x.tell(0, 2, column), BAD_TELL);
        }
    }

    private static void tellNot(Check check) {
        for (int what = 0; what < 3; what++) {
            int w = what;
            check.refuses(State.RICH, "tell(1, " + w + ", 0)", x -> x.tell(1, w, 0), NOT_TELL);
            check.refuses(State.BARE, "tell(0, " + w + ", 2)", x -> x.tell(0, w, 2), NOT_TELL);
            check.refuses(State.NEW, "tell(0, " + w + ", 0)", x -> x.tell(0, w, 0), NOT_TELL);
        }
    }

    private static void tellOrder(Check check) {
        check.refuses(State.RICH, "tell(1, 3, 0)", x -> x.tell(1, 3, 0), BAD_TELL);
        check.refuses(State.RICH, "tell(1, 0, 3)", x -> x.tell(1, 0, 3), BAD_TELL);
        check.refuses(State.RICH, "tell(1, 2, -1)", x -> x.tell(1, 2, -1), BAD_TELL);
    }
}
