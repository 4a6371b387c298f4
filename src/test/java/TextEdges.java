/** TESTS and their MEANING of the Terms, Promises 7 to 13. */
final class TextEdges {
    private static final int N = -100, NONE = -1, BAD = -2, NOT = -3, FULL = -4;
    private static final int MOST = Integer.MAX_VALUE, LEAST = Integer.MIN_VALUE;
    private static final int[] NO_TEXTS = {-1, 2, MOST, LEAST};

    /** ROWS that RICH has not. */
    private static final int[] NO_ROWS = {-1, 4, 8, 32, MOST, LEAST};

    /** No, yes and nothing as TESTS in any ROW, by their numbers. */
    private static final String[] TESTS = {"=01", "=11", "<1n"};

    private static final String LONG_TEST = "&!<a-3|=b-9?>cn";

    private TextEdges() {
    }

    static void addTo(Edges edges) {
        edges.at("Terms");
        edges.add("TEXTS 0, 1 are TESTS of up to 40 bytes", TextEdges::fortyBytes);
        edges.add("ahead of what they are of: & TEST TEST; | TEST TEST;", TextEdges::ofTwoTests);
        edges.add("! TEST; ? TEST;", TextEdges::ofOneTest);
        edges.add("< TERM TERM; = TERM TERM; > TERM TERM.", TextEdges::ofTwoTerms);
        edges.add("A TERM is a, b, c, a figure, - and a figure, or n (NOTHING).", TextEdges::terms);
        edges.add("Nothing stands between, so |<a3?=bn .", TextEdges::nothingBetween);
        edges.add("The FAULT is the place of the first byte with which it cannot go on", TextEdges::cannotGoOn);
        edges.add("(of one that is not ended, its end", TextEdges::notEnded);
        edges.add(": of an empty one 0;", TextEdges::emptyText);
        edges.add("of one too many behind its end: that one).", TextEdges::oneTooMany);
        edges.add("ACTS of a TEST are its signs & | ! ? < = >, from 0 on, in the order of the text.",
                TextEdges::actsInOrder);
        edges.add("MEANING of a TEST in a ROW: yes (1), no (0), or nothing (2).", TextEdges::yesNoNothing);
        edges.add("< = > of TERMS: nothing, if one of both is NOTHING.", TextEdges::compare);
        edges.add("! turns yes and no over, nothing stays.", TextEdges::turn);
        edges.add("? is yes of nothing, else no.", TextEdges::isNothing);
        edges.add("& is no, if one of both is no; else nothing, if one is; else yes.", TextEdges::both);
        edges.add("| is yes, if one of both is; else nothing, if one is; else no.", TextEdges::either);
        addPromises(edges);
    }

    private static void addPromises(Edges edges) {
        edges.at("Promise 7");
        edges.add("A byte (0 to 255) comes behind a TEXT: how many.", TextEdges::type);
        edges.add("BAD", TextEdges::typeBad);
        edges.add("FULL.", TextEdges::typeFull);
        edges.add("BAD; FULL.", TextEdges::typeOrder);
        edges.at("Promise 8");
        edges.add("A TEXT is empty: how many bytes it had.", TextEdges::wipe);
        edges.add("BAD.", TextEdges::wipeBad);
        edges.at("Promise 9");
        edges.add("The FAULT of a TEXT; NONE.", TextEdges::fault);
        edges.add("BAD.", TextEdges::faultBad);
        edges.at("Promise 10");
        edges.add("Byte i of a TEXT", TextEdges::byteOf);
        edges.add("NONE: it is not so long.", TextEdges::byteNone);
        edges.add("BAD: also i below 0.", TextEdges::byteBad);
        edges.at("Promise 11");
        edges.add("How many ACTS a TEXT has.", TextEdges::acts);
        edges.add("BAD", TextEdges::actsBad);
        edges.add("NOT.", TextEdges::actsNot);
        edges.at("Promise 12");
        edges.add("MEANING of an ACT of a TEXT in a ROW.", TextEdges::means);
        edges.add("BAD", TextEdges::meansBad);
        edges.add("(an ACT beyond those that there are: behind NOT)", TextEdges::meansBeyond);
        edges.add("NOT.", TextEdges::meansNot);
        edges.at("Promise 13");
        edges.add("ROWS in which a TEXT means yes, as bits.", TextEdges::meant);
        edges.add("BAD", TextEdges::meantBad);
        edges.add("NOT.", TextEdges::meantNot);
    }

    private static int faultOf(String text) {
        return Check.with(text).fault(0);
    }

    private static void faultIs(Check check, String text, int place) {
        check.due("fault of " + text, faultOf(text), place);
    }

    private static void fortyBytes(Check check) {
        for (int text = 0; text < 2; text++) {
            GrownAsks x = new GrownAsks();
            for (int i = 0; i < 37; i++) check.due("type", x.type(text, '!'), i + 1);
            for (int i = 0; i < 3; i++) check.due("type", x.type(text, "<ab".charAt(i)), i + 38);
            check.due("byte 41", x.type(text, '!'), FULL);
            check.due("fault", x.fault(text), NONE);
            check.due("acts", x.acts(text), 38);
            check.due("byte 39", x.byteOf(text, 39), 'b');
            check.due("the other", x.count(2 - text), 0);
            check.due("there is no TEXT 2", x.type(2, '!'), BAD);
        }
    }

    private static void ofTwoTests(Check check) {
        for (String sign : new String[] {"&", "|"}) {
            faultIs(check, sign, 1);
            faultIs(check, sign + "<ab", 4);
            faultIs(check, sign + "<ab!=cn", NONE);
            faultIs(check, sign + "<ab=cn<", 7);
            faultIs(check, sign + "a", 1);
            faultIs(check, sign + "<abc", 4);
            faultIs(check, sign + sign + "<ab=cn", 8);
            faultIs(check, sign + "<ab" + sign + "=cn>ab", NONE);
        }
    }

    private static void ofOneTest(Check check) {
        for (String sign : new String[] {"!", "?"}) {
            faultIs(check, sign, 1);
            faultIs(check, sign + "<ab", NONE);
            faultIs(check, sign + "<ab<", 4);
            faultIs(check, sign + "a", 1);
            faultIs(check, sign + sign + "&<ab=cn", NONE);
        }
    }

    private static void ofTwoTerms(Check check) {
        for (String sign : new String[] {"<", "=", ">"}) {
            faultIs(check, sign, 1);
            faultIs(check, sign + "a", 2);
            faultIs(check, sign + "ab", NONE);
            faultIs(check, sign + "abc", 3);
            faultIs(check, sign + "-1-2", NONE);
            for (int i = 0; i < 7; i++) {
                faultIs(check, sign + "&|!?<=>".charAt(i), 1);
                faultIs(check, sign + "a" + "&|!?<=>".charAt(i), 2);
            }
        }
    }

    private static void terms(Check check) {
        for (int b = 0; b < 256; b++) {
            boolean isFigure = b >= '0' && b <= '9';
            boolean isTerm = isFigure || b >= 'a' && b <= 'c' || b == 'n';
            String sign = String.valueOf((char) b);
            if (b != '-') {
                faultIs(check, "=" + sign, isTerm ? 2 : 1);
                faultIs(check, "=" + sign + "a", isTerm ? NONE : 1);
                faultIs(check, "=a" + sign, isTerm ? NONE : 2);
            }
            faultIs(check, "=-" + sign, isFigure ? 3 : 2);
            faultIs(check, "=a-" + sign, isFigure ? NONE : 3);
        }
        faultIs(check, "=-", 2);
        faultIs(check, "=a12", 3);
        faultIs(check, "=a-12", 4);
        for (int v = -9; v <= 9; v++) {
            GrownAsks x = Check.with("=b" + v);
            x.row(N, v, N);
            check.due("it is " + v, x.means(0, 0, 0), 1);
        }
        GrownAsks x = Check.with("&=a-0?=nn");
        x.row(0, 0, 0);
        check.due("-0 and n", x.means(0, 0, 0), 1);
    }

    private static void nothingBetween(Check check) {
        String test = "|<a3?=bn";
        faultIs(check, test, NONE);
        for (String between : new String[] {" ", "\0", "\t", "\n", ",", "(", "\u00ff"}) {
            for (int i = 0; i <= test.length(); i++) {
                faultIs(check, test.substring(0, i) + between + test.substring(i), i);
            }
        }
        faultIs(check, "<a- 3", 3);
    }

    private static void cannotGoOn(Check check) {
        faultIs(check, "x", 0);
        faultIs(check, "ab", 0);
        faultIs(check, "<xy", 1);
        faultIs(check, "<axy", 2);
        faultIs(check, "&<abx", 4);
        faultIs(check, "&<abx<ab", 4);
        faultIs(check, "<a--1", 3);
        faultIs(check, "<-ab", 2);
        faultIs(check, "<-nb", 2);
        faultIs(check, "!".repeat(39) + "x", 39);
        GrownAsks x = Check.with("x");
        for (int i = 0; i < 3; i++) x.type(0, "<ab".charAt(i));
        check.due("what comes behind does not mend it", x.fault(0), 0);
        x.wipe(0);
        for (int i = 0; i < 3; i++) x.type(0, "<ab".charAt(i));
        check.due("wiping does", x.fault(0), NONE);
    }

    private static void notEnded(Check check) {
        for (int end = 1; end < LONG_TEST.length(); end++) faultIs(check, LONG_TEST.substring(0, end), end);
        faultIs(check, LONG_TEST, NONE);
        faultIs(check, "!".repeat(40), 40);
        faultIs(check, "&".repeat(40), 40);
        faultIs(check, "!".repeat(38) + "<a", 40);
        faultIs(check, "!".repeat(37) + "<a-", 40);
    }

    private static void emptyText(Check check) {
        GrownAsks x = new GrownAsks();
        for (int text = 0; text < 2; text++) {
            check.due("of a new one", x.fault(text), 0);
            Check.type(x, text, "<ab");
            x.wipe(text);
            check.due("of a wiped one", x.fault(text), 0);
        }
    }

    private static void oneTooMany(Check check) {
        for (int b = 0; b < 256; b++) faultIs(check, "<ab" + (char) b, 3);
        faultIs(check, "<ab<ab", 3);
        faultIs(check, "<abxyz", 3);
        faultIs(check, "!<a-11", 5);
        faultIs(check, "!".repeat(36) + "<ab" + "c", 39);
    }

    private static void actsInOrder(Check check) {
        GrownAsks x = Check.with("|&=a1!<b-2?>c-3");
        x.row(1, 5, N);
        check.due("acts: - is no sign", x.acts(0), 7);
        int[] due = {1, 1, 1, 1, 0, 1, 2};
        for (int act = 0; act < 7; act++) check.due("act " + act, x.means(0, act, 0), due[act]);
        check.due("the first is 0", x.means(0, -1, 0), BAD);
        check.due("the last is 6", x.means(0, 7, 0), BAD);
    }

    private static int means(String test, int a, int b, int c) {
        GrownAsks x = Check.with(test);
        x.row(a, b, c);
        // MEANING is what no FAULT changes
        x.set(1, 255);
        return x.means(0, 0, 0);
    }

    private static void yesNoNothing(Check check) {
        for (int v = 0; v < 3; v++) check.due(TESTS[v], means(TESTS[v], 0, 0, 0), v);
        check.due("yes in a row", means("=a1", 1, 0, 0), 1);
        check.due("no in another", means("=a1", 2, 0, 0), 0);
        check.due("nothing in another", means("=a1", N, 0, 0), 2);
    }

    private static void compare(Check check) {
        int[] values = {-9, -1, 0, 1, 9, N};
        for (int a : values) {
            for (int b : values) {
                boolean none = a == N || b == N;
                String told = b == N ? "n" : String.valueOf(b);
                for (String second : new String[] {"b", told}) {
                    check.due(a + " < " + b, means("<a" + second, a, b, 0), none ? 2 : a < b ? 1 : 0);
                    check.due(a + " = " + b, means("=a" + second, a, b, 0), none ? 2 : a == b ? 1 : 0);
                    check.due(a + " > " + b, means(">a" + second, a, b, 0), none ? 2 : a > b ? 1 : 0);
                    check.due(b + " < " + a, means("<" + second + "a", a, b, 0), none ? 2 : b < a ? 1 : 0);
                }
            }
        }
        check.due("two that are told", means("<-98", 0, 0, 0), 1);
        check.due("two NOTHINGS that are told", means("=nn", 0, 0, 0), 2);
        compareInEachRow(check, new int[] {1, 2, 3, N, 1, 2, 9, -9}, new int[] {2, 2, 2, 2, N, 1, -9, 9});
    }

    private static void compareInEachRow(Check check, int[] as, int[] bs) {
        GrownAsks x = new GrownAsks();
        for (int i = 0; i < 8; i++) x.row(as[i], bs[i], 0);
        int[] due = new int[3];
        for (int i = 0; i < 8; i++) {
            if (as[i] != N && bs[i] != N) due[1 + Integer.compare(as[i], bs[i])] |= 1 << i;
        }
        for (int k = 0; k < 3; k++) {
            Check.type(x, 0, "<=>".charAt(k) + "ab");
            check.due("ROWS of " + "<=>".charAt(k), x.meant(0), due[k]);
            Check.type(x, 0, "?" + "<=>".charAt(k) + "ab");
            check.due("ROWS of nothing", x.meant(0), 8 | 16);
        }
    }

    private static void turn(Check check) {
        int[] due = {1, 0, 2};
        for (int v = 0; v < 3; v++) check.due("! of " + v, means("!" + TESTS[v], 0, 0, 0), due[v]);
    }

    private static void isNothing(Check check) {
        int[] due = {0, 0, 1};
        for (int v = 0; v < 3; v++) check.due("? of " + v, means("?" + TESTS[v], 0, 0, 0), due[v]);
    }

    private static void joined(Check check, String sign, int[][] due) {
        for (int v = 0; v < 3; v++) {
            for (int w = 0; w < 3; w++) {
                check.due(sign + " of " + v + ", " + w, means(sign + TESTS[v] + TESTS[w], 0, 0, 0), due[v][w]);
            }
        }
    }

    private static void both(Check check) {
        joined(check, "&", new int[][] {{0, 0, 0}, {0, 1, 2}, {0, 2, 2}});
    }

    private static void either(Check check) {
        joined(check, "|", new int[][] {{0, 1, 2}, {1, 1, 1}, {2, 1, 2}});
    }

    private static void type(Check check) {
        GrownAsks x = new GrownAsks();
        int[] bytes = {0, 255, 60, 127, 128, 254};
        for (int text = 0; text < 2; text++) {
            for (int i = 0; i < bytes.length; i++) check.due("type " + bytes[i], x.type(text, bytes[i]), i + 1);
            for (int i = 0; i < bytes.length; i++) check.due("byte " + i, x.byteOf(text, i), bytes[i]);
        }
    }

    private static void typeBad(Check check) {
        for (int b : new int[] {-1, 256, MOST, LEAST, 60 + 256, 60 - 256}) {
            check.refuses(State.RICH, "type(1, " + b + ")", x -> x.type(1, b), BAD);
        }
        for (int text : NO_TEXTS) check.refuses(State.RICH, "type(" + text + ", 98)", x -> x.type(text, 98), BAD);
    }

    private static void typeFull(Check check) {
        check.refuses(State.FULL, "type(0, 60)", x -> x.type(0, 60), FULL);
        check.refuses(State.FULL, "type(1, 60)", x -> x.type(1, 60), FULL);
        GrownAsks x = State.FULL.make(0);
        x.wipe(1);
        check.due("room again", x.type(1, 60), 1);
        check.due("not there", x.type(0, 60), FULL);
    }

    private static void typeOrder(Check check) {
        check.refuses(State.FULL, "type(0, 256)", x -> x.type(0, 256), BAD);
        check.refuses(State.FULL, "type(1, -1)", x -> x.type(1, -1), BAD);
    }

    private static void wipe(Check check) {
        GrownAsks x = State.FULL.make(0);
        check.due("of 40", x.wipe(0), 40);
        check.due("again", x.wipe(0), 0);
        check.due("bytes", x.count(1), 0);
        check.due("byte 0", x.byteOf(0, 0), NONE);
        check.due("the other stays", x.count(2), 40);
        check.due("of the other", x.wipe(1), 40);
        GrownAsks y = State.RICH.make(0);
        check.due("of 8", y.wipe(0), 8);
        check.due("of 2", y.wipe(1), 2);
        check.due("of a new one", new GrownAsks().wipe(1), 0);
        for (int end = 0; end <= LONG_TEST.length(); end++) wipeAt(check, LONG_TEST.substring(0, end));
        wipeAt(check, "<ax");
    }

    /** Whatever was open, or could not go on, is gone. */
    private static void wipeAt(Check check, String begun) {
        GrownAsks x = Check.with(begun);
        x.row(1, 2, 3);
        check.due("of " + begun, x.wipe(0), begun.length());
        check.due("fault behind " + begun, x.fault(0), 0);
        for (int i = 0; i < 3; i++) x.type(0, "=b2".charAt(i));
        check.due("fault behind " + begun, x.fault(0), NONE);
        check.due("acts behind " + begun, x.acts(0), 1);
        check.due("meant behind " + begun, x.meant(0), 1);
    }

    private static void wipeBad(Check check) {
        for (int text : NO_TEXTS) check.refuses(State.RICH, "wipe(" + text + ")", x -> x.wipe(text), BAD);
    }

    private static void fault(Check check) {
        GrownAsks x = State.RICH.make(0);
        check.due("of TEXT 0", x.fault(0), NONE);
        check.due("of TEXT 1", x.fault(1), 2);
        GrownAsks y = State.BARE.make(0);
        check.due("of TEXT 0", y.fault(0), 2);
        check.due("of TEXT 1", y.fault(1), NONE);
        check.due("of 40 bytes", State.FULL.make(0).fault(1), 40);
        check.due("of 40 bytes", State.FULL.make(0).fault(0), NONE);
    }

    private static void faultBad(Check check) {
        for (int text : NO_TEXTS) check.refuses(State.RICH, "fault(" + text + ")", x -> x.fault(text), BAD);
    }

    private static void byteOf(Check check) {
        GrownAsks x = State.FULL.make(0);
        check.due("byte 0", x.byteOf(0, 0), '!');
        check.due("byte 37", x.byteOf(0, 37), '<');
        check.due("byte 39", x.byteOf(0, 39), 'b');
        check.due("byte 39 of TEXT 1", x.byteOf(1, 39), '&');
        GrownAsks y = new GrownAsks();
        y.type(0, 255);
        y.type(0, 0);
        check.due("255", y.byteOf(0, 0), 255);
        check.due("0", y.byteOf(0, 1), 0);
    }

    private static void byteNone(Check check) {
        GrownAsks x = State.RICH.make(0);
        for (int i : new int[] {8, 9, 39, 40, 41, MOST}) check.due("byte " + i, x.byteOf(0, i), NONE);
        check.due("byte 2 of TEXT 1", x.byteOf(1, 2), NONE);
        check.due("byte 40 of 40", State.FULL.make(0).byteOf(0, 40), NONE);
        x.wipe(0);
        x.type(0, 60);
        check.due("byte 1, which was there before", x.byteOf(0, 1), NONE);
        check.due("byte 0 of a new one", new GrownAsks().byteOf(0, 0), NONE);
    }

    private static void byteBad(Check check) {
        for (int i : new int[] {-1, -40, LEAST}) {
            check.refuses(State.RICH, "byteOf(0, " + i + ")", x -> x.byteOf(0, i), BAD);
            check.refuses(State.NEW, "byteOf(1, " + i + ")", x -> x.byteOf(1, i), BAD);
        }
        for (int text : NO_TEXTS) {
            check.refuses(State.RICH, "byteOf(" + text + ", 0)", x -> x.byteOf(text, 0), BAD);
            check.refuses(State.RICH, "byteOf(" + text + ", 40)", x -> x.byteOf(text, 40), BAD);
        }
    }

    private static void acts(Check check) {
        check.due("the fewest", Check.with("<ab").acts(0), 1);
        check.due("the most", State.FULL.make(0).acts(0), 38);
        check.due("each sign", Check.with("&|<ab=bc!?>ca").acts(0), 7);
        check.due("of TEXT 1", State.BARE.make(0).acts(1), 4);
        check.due("- is no sign", Check.with("=-1-2").acts(0), 1);
    }

    private static void actsBad(Check check) {
        for (int text : NO_TEXTS) check.refuses(State.RICH, "acts(" + text + ")", x -> x.acts(text), BAD);
    }

    private static void actsNot(Check check) {
        check.refuses(State.RICH, "acts(1)", x -> x.acts(1), NOT);
        check.refuses(State.BARE, "acts(0)", x -> x.acts(0), NOT);
        check.refuses(State.NEW, "acts(0)", x -> x.acts(0), NOT);
        check.refuses(State.FULL, "acts(1)", x -> x.acts(1), NOT);
        check.due("of one too many", Check.with("<abc").acts(0), NOT);
    }

    private static void means(Check check) {
        GrownAsks x = State.RICH.make(0);
        int[][] due = {{1, 1, 1, 1}, {1, 1, 2, 1}, {1, 1, 1, 1}, {2, 2, 2, 2}};
        for (int act = 0; act < 4; act++) {
            for (int row = 0; row < 4; row++) {
                check.due("act " + act + " in row " + row, x.means(0, act, row), due[act][row]);
            }
        }
        GrownAsks y = State.FULL.make(0);
        y.put(7, 1, 9);
        check.due("the last act in the last row", y.means(0, 37, 7), 1);
        check.due("the first act in the last row", y.means(0, 0, 7), 0);
        check.due("the first act in the first row", y.means(0, 0, 0), 2);
        check.due("of TEXT 1", State.BARE.make(0).means(1, 1, 2), 2);
    }

    private static void meansBad(Check check) {
        for (int text : NO_TEXTS) {
            check.refuses(State.RICH, "means(" + text + ", 0, 0)", x -> x.means(text, 0, 0), BAD);
        }
        for (int act : new int[] {-1, 4, 8, 40, MOST, LEAST}) {
            check.refuses(State.RICH, "means(0, " + act + ", 0)", x -> x.means(0, act, 0), BAD);
        }
        for (int row : NO_ROWS) {
            check.refuses(State.RICH, "means(0, 0, " + row + ")", x -> x.means(0, 0, row), BAD);
        }
        GrownAsks x = Check.with("<ab");
        check.due("without rows", x.means(0, 0, 0), BAD);
        check.refuses(State.FULL, "means(0, 38, 0)", y -> y.means(0, 38, 0), BAD);
        check.refuses(State.FULL, "means(0, 0, 8)", y -> y.means(0, 0, 8), BAD);
    }

    private static void meansBeyond(Check check) {
        for (int act : new int[] {1, 4, 40, 41, MOST}) {
            check.refuses(State.RICH, "means(1, " + act + ", 0)", x -> x.means(1, act, 0), NOT);
        }
        check.refuses(State.RICH, "means(1, -1, 0)", x -> x.means(1, -1, 0), BAD);
        check.refuses(State.RICH, "means(1, 4, 4)", x -> x.means(1, 4, 4), BAD);
        check.refuses(State.RICH, "means(2, 4, 0)", x -> x.means(2, 4, 0), BAD);
    }

    private static void meansNot(Check check) {
        check.refuses(State.RICH, "means(1, 0, 0)", x -> x.means(1, 0, 0), NOT);
        check.refuses(State.BARE, "means(0, 0, 3)", x -> x.means(0, 0, 3), NOT);
        check.refuses(State.RICH, "means(1, 0, 4)", x -> x.means(1, 0, 4), BAD);
        check.refuses(State.NEW, "means(0, 0, 0)", x -> x.means(0, 0, 0), BAD);
    }

    private static void meant(Check check) {
        GrownAsks x = Check.with("=a1");
        Check.type(x, 1, "!=a1");
        check.due("without rows", x.meant(0), 0);
        for (int i = 0; i < 8; i++) x.row(i == 7 ? 1 : 0, 0, 0);
        check.due("the last row", x.meant(0), 128);
        check.due("the others", x.meant(1), 127);
        x.put(0, 0, N);
        check.due("nothing is not yes", x.meant(1), 126);
        Check.type(x, 0, "=00");
        check.due("all", x.meant(0), 255);
        Check.type(x, 0, "=01");
        check.due("none", x.meant(0), 0);
        Check.type(x, 0, "=an");
        x.set(1, 255);
        check.due("no FAULT changes it", x.meant(0), 0);
    }

    private static void meantBad(Check check) {
        for (int text : NO_TEXTS) check.refuses(State.RICH, "meant(" + text + ")", x -> x.meant(text), BAD);
    }

    private static void meantNot(Check check) {
        check.refuses(State.RICH, "meant(1)", x -> x.meant(1), NOT);
        check.refuses(State.BARE, "meant(0)", x -> x.meant(0), NOT);
        check.refuses(State.NEW, "meant(0)", x -> x.meant(0), NOT);
    }
}
