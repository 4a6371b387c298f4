/** 4 GROWN up to LED ON, Promises 23 to 26. */
final class GrowEdges {
    private static final int N = -100, NONE = -1, BAD = -2, NOT = -3;
    private static final int MOST = Integer.MAX_VALUE, LEAST = Integer.MIN_VALUE;
    private static final int[] NO_TEXTS = {-1, 2, MOST, LEAST};
    private static final int[] NO_ROOMS = {0, 10, -1, MOST, LEAST};
    private static final int[] SEEDS = {0, 1, -1, 5, -7, 65536, 123456789, -123456789, MOST, MOST - 1, LEAST, LEAST + 1};

    /** Fires all RULES with two ROWS (1, 1, 1). */
    private static final String ALL_RULES = "||&!<na=11<aa|=nn|?<na>a9";

    private GrowEdges() {
    }

    static void addTo(Edges edges) {
        edges.at("4 GROWN");
        edges.add("GROWN by a SEED: a LOT of k: SEED becomes 1103515245 SEED and 12345, as ints that wrap;", GrowEdges::wraps);
        edges.add("its upper 16 bits as a number from 0 on, modulo k.", GrowEdges::upperBits);
        edges.add("A TEST with room for r ACTS (1 to 9):", GrowEdges::rooms);
        edges.add("if r is above 1, a LOT of 7 tells its sign: & | ! ? < = > (0 on), else a LOT of 3: < = >.", GrowEdges::signs);
        edges.add("& and | have a first TEST with room for (1 and a LOT of (r less 2)) where r is above 2, "
                + "and then a second one with the room that is left (r less 1 less that);", GrowEdges::twoTests);
        edges.add("with r 2 they are ! and ? instead.", GrowEdges::roomOfTwo);
        edges.add("! and ? have a TEST with room for r less 1.", GrowEdges::oneTest);
        edges.add("< = > have two TERMS: a LOT of 6: 0 to 2 a COLUMN, 3 n, 4 a figure: a LOT of 10, "
                + "5 - and a figure: a LOT of 10.", GrowEdges::terms);
        edges.add("LEARNT are pairs of RULES that FIRED together when learn() was called.", GrowEdges::pairs);
        edges.add("LED ON: the least SEED from one on", GrowEdges::leastSeed);
        edges.add("(30 are tried)", GrowEdges::thirty);
        edges.add("by which the TEST that is grown FIRES (with THE TABLE) a pair that was not LEARNT; NONE.",
                GrowEdges::notLearnt);
        edges.at("Promise 23");
        edges.add("TEXT 1 becomes what is GROWN by a SEED, with room for r ACTS: how many bytes.", GrowEdges::grow);
        edges.add("BAD.", GrowEdges::growBad);
        edges.at("Promise 24");
        edges.add("Pairs that FIRED together by a TEXT are LEARNT: how many are new.", GrowEdges::learn);
        edges.add("BAD", GrowEdges::learnBad);
        edges.add("NOT.", GrowEdges::learnNot);
        edges.at("Promise 25");
        edges.add("Whether two unlike RULES are LEARNT together: 1, 0.", GrowEdges::learnt);
        edges.add("BAD.", GrowEdges::learntBad);
        edges.at("Promise 26");
        edges.add("LED ON from a SEED, with room for r ACTS: how many SEEDS further it is (0 to 29); NONE.", GrowEdges::next);
        edges.add("(TEXTS stay.)", GrowEdges::nextStays);
        edges.add("BAD.", GrowEdges::nextBad);
    }

    /** LOTS by whole numbers, the SEED taken as one from 0 on, so nothing wraps by itself. */
    private static final class Lots {
        private long seed;

        Lots(int seed) {
            this.seed = Math.floorMod((long) seed, 4294967296L);
        }

        int of(int k) {
            seed = (1103515245L * seed + 12345L) % 4294967296L;
            return (int) (seed / 65536 % k);
        }

        String test(int r) {
            String sign = String.valueOf(r > 1 ? "&|!?<=>".charAt(of(7)) : "<=>".charAt(of(3)));
            if (r == 2 && sign.equals("&")) sign = "!";
            if (r == 2 && sign.equals("|")) sign = "?";
            if ("&|".contains(sign)) {
                int room = 1 + of(r - 2);
                String first = test(room);
                return sign + first + test(r - 1 - room);
            }
            if ("!?".contains(sign)) return sign + test(r - 1);
            String left = term();
            return sign + left + term();
        }

        private String term() {
            switch (of(6)) {
                case 0: return "a";
                case 1: return "b";
                case 2: return "c";
                case 3: return "n";
                case 4: return String.valueOf(of(10));
                default: return "-" + of(10);
            }
        }
    }

    private static String grown(int seed, int r) {
        GrownAsks x = new GrownAsks();
        x.grow(seed, r);
        return Check.textOf(x, 1);
    }

    private static void isGrown(Check check, int seed, int r) {
        String got = grown(seed, r), due = new Lots(seed).test(r);
        check.isTrue("grow(" + seed + ", " + r + ") is " + got + ", due is " + due, got.equals(due));
    }

    private static void wraps(Check check) {
        for (int seed : SEEDS) {
            for (int r = 1; r <= 9; r++) isGrown(check, seed, r);
        }
        for (int k = 0; k < 32; k++) isGrown(check, 1 << k, 9);
    }

    /** The first LOT of 3 of a SEED is a sign: of SEED 0 it is 0, as 12345 has no upper bits. */
    private static void upperBits(Check check) {
        check.due("of SEED 0", grown(0, 1).charAt(0), '<');
        int below = 0;
        for (int seed = -300; seed < 300; seed++) {
            int turned = 1103515245 * seed + 12345;
            below += turned < 0 ? 1 : 0;
            check.due("the first LOT of SEED " + seed, grown(seed, 1).charAt(0), "<=>".charAt((turned >>> 16) % 3));
        }
        check.isTrue("some have the uppermost bit", below > 100);
    }

    private static void rooms(Check check) {
        int most = 0;
        for (int r = 1; r <= 9; r++) {
            for (int seed = 0; seed < 300; seed++) {
                GrownAsks x = new GrownAsks();
                x.grow(seed, r);
                check.due("fault of grow(" + seed + ", " + r + ")", x.fault(1), NONE);
                check.isTrue("no more ACTS than room", x.acts(1) >= 1 && x.acts(1) <= r);
                most = Math.max(most, r == 9 ? x.acts(1) : 0);
            }
        }
        check.due("the most ACTS", most, 9);
        check.due("room for none", new GrownAsks().grow(0, 0), BAD);
        check.due("room for ten", new GrownAsks().grow(0, 10), BAD);
    }

    private static void signs(Check check) {
        int[] seen = new int[2];
        for (int seed = 0; seed < 100; seed++) {
            int sign = new Lots(seed).of(7), last = new Lots(seed).of(3);
            seen[0] |= 1 << sign;
            seen[1] |= 1 << last;
            for (int r = 3; r <= 9; r++) {
                check.due("sign of " + seed + ", " + r, grown(seed, r).charAt(0), "&|!?<=>".charAt(sign));
            }
            check.due("sign of " + seed + ", 1", grown(seed, 1).charAt(0), "<=>".charAt(last));
        }
        check.due("each of the signs", seen[0], 127);
        check.due("each of < = >", seen[1], 7);
    }

    /** SEEDS of which the first LOT of 7 is one of these, from 0 on. */
    private static int[] seedsOf(int from, int to, int many) {
        int[] seeds = new int[many];
        int next = 0;
        for (int seed = 0; next < many; seed++) {
            int lot = new Lots(seed).of(7);
            if (lot >= from && lot <= to) seeds[next++] = seed;
        }
        return seeds;
    }

    private static void twoTests(Check check) {
        for (int seed : seedsOf(0, 1, 60)) {
            for (int r = 3; r <= 9; r++) isGrown(check, seed, r);
            Lots lots = new Lots(seed);
            String sign = String.valueOf("&|".charAt(lots.of(7)));
            check.due("with r 3 a LOT of 1 is had", lots.of(1), 0);
            check.isTrue("with r 3 both have room for 1",
                    grown(seed, 3).equals(sign + lots.test(1) + lots.test(1)));
        }
    }

    private static void roomOfTwo(Check check) {
        for (int seed : seedsOf(0, 1, 60)) {
            int lot = new Lots(seed).of(7);
            check.due("sign of " + seed, grown(seed, 2).charAt(0), lot == 0 ? '!' : '?');
            isGrown(check, seed, 2);
        }
        for (int seed : seedsOf(2, 6, 60)) isGrown(check, seed, 2);
    }

    private static void oneTest(Check check) {
        for (int seed : seedsOf(2, 3, 60)) {
            for (int r = 2; r <= 9; r++) {
                Lots lots = new Lots(seed);
                String due = "&|!?".charAt(lots.of(7)) + lots.test(r - 1);
                check.isTrue("of " + seed + ", " + r + " due is " + due, grown(seed, r).equals(due));
            }
        }
    }

    private static void terms(Check check) {
        int kinds = 0, figures = 0, minus = 0;
        for (int seed = 0; seed < 400; seed++) {
            isGrown(check, seed, 1);
            Lots lots = new Lots(seed);
            lots.of(3);
            int kind = lots.of(6);
            kinds |= 1 << kind;
            if (kind == 4) figures |= 1 << lots.of(10);
            if (kind == 5) minus |= 1 << lots.of(10);
        }
        check.due("each kind of TERM", kinds, 63);
        check.due("each figure", figures, 1023);
        check.due("each figure behind -", minus, 1023);
    }

    private static GrownAsks twoRows(String test) {
        GrownAsks x = Check.with(test);
        for (int i = 0; i < 2; i++) x.row(1, 1, 1);
        return x;
    }

    private static void pairs(Check check) {
        GrownAsks x = twoRows("!=nn");
        x.fired(0);
        x.which(0);
        check.due("not without learn()", x.learnt(0, 1), 0);
        x.learn(0);
        check.due("0 and 1", x.learnt(0, 1), 1);
        check.due("pairs", x.count(5), 1);
        Check.type(x, 0, "?=nn");
        check.due("not yet", x.learnt(1, 5), 0);
        x.learn(0);
        check.due("1, 5 and 7", x.count(5), 4);
        check.due("not 0 and 5, which FIRED, but not together", x.learnt(0, 5), 0);
        x.set(0, 0);
        x.wipe(0);
        x.empty();
        check.due("they stay", x.count(5), 4);
        check.due("they stay", x.learnt(1, 5), 1);
    }

    /** A pair of RULES that FIRED, by what is grown into TEXT 1 of a new object with one ROW. */
    private static boolean hits(int seed, int r, int... row) {
        GrownAsks x = new GrownAsks();
        x.row(row[0], row[1], row[2]);
        x.grow(seed, r);
        return Integer.bitCount(x.fired(1)) > 1;
    }

    private static int due(int seed, int r, int... row) {
        for (int k = 0; k < 30; k++) if (hits(seed + k, r, row)) return k;
        return NONE;
    }

    private static void leastSeed(Check check) {
        int[] from = {0, 17, -15, MOST, MOST - 1, MOST - 10, MOST - 29, LEAST, LEAST + 3};
        for (int seed : from) {
            for (int r = 1; r <= 9; r++) {
                GrownAsks x = new GrownAsks();
                x.row(3, 3, N);
                check.due("next(" + seed + ", " + r + ")", x.next(seed, r), due(seed, r, 3, 3, N));
            }
        }
        int wrapped = 0;
        for (int k = 0; k < 200; k++) {
            int further = due(MOST - k % 29, 2 + k % 3, k % 7, k % 7, N);
            GrownAsks x = new GrownAsks();
            x.row(k % 7, k % 7, N);
            check.due("next, case " + k, x.next(MOST - k % 29, 2 + k % 3), further);
            wrapped += further > k % 29 ? 1 : 0;
        }
        check.isTrue("some lie behind the greatest int", wrapped > 5);
    }

    private static void thirty(Check check) {
        int found = 0, gap = 0;
        for (int seed = 0; seed < 20000 && found < 3; seed++) {
            boolean hit = hits(seed, 2, 3, 3, 3);
            if (hit && gap >= 30) {
                found++;
                GrownAsks x = new GrownAsks();
                x.row(3, 3, 3);
                check.due("the one itself", x.next(seed, 2), 0);
                check.due("the last that is tried", x.next(seed - 29, 2), 29);
                check.due("the first that is not", x.next(seed - 30, 2), NONE);
            }
            gap = hit ? 0 : gap + 1;
        }
        check.due("such gaps", found, 3);
    }

    private static void notLearnt(Check check) {
        GrownAsks x = new GrownAsks();
        check.due("without ROWS nothing FIRES", x.next(0, 9), NONE);
        x.row(0, 1, N);
        x.row(N, N, N);
        check.due("one ACT FIRES no pair", x.next(1, 1), NONE);
        int first = x.next(0, 5);
        check.due("the first", first, 1);
        x.grow(first, 5);
        check.isTrue("it is new", x.learn(1) > 0);
        check.isTrue("it is not any more", x.next(0, 5) != first);
        x.set(0, 1);
        check.due("one RULE alone is no pair", x.next(0, 9), NONE);
        GrownAsks y = twoRows(ALL_RULES);
        check.isTrue("some", y.next(0, 9) >= 0);
        check.due("all", y.learn(0), 28);
        for (int r = 1; r <= 9; r++) check.due("all are LEARNT", y.next(0, r), NONE);
    }

    private static void grow(Check check) {
        for (int seed : SEEDS) {
            for (int r = 1; r <= 9; r++) {
                GrownAsks x = State.FULL.make(0);
                check.due("bytes of " + seed + ", " + r, x.grow(seed, r), new Lots(seed).test(r).length());
                check.due("bytes", x.count(2), new Lots(seed).test(r).length());
                check.due("no FAULT is left", x.fault(1), NONE);
                check.due("TEXT 0 stays", x.count(1), 40);
                check.due("TEXT 0 stays", x.acts(0), 38);
                check.isTrue("the bytes", Check.textOf(x, 1).equals(new Lots(seed).test(r)));
            }
        }
        growOverWhatIsBegun(check);
    }

    private static void growOverWhatIsBegun(Check check) {
        String begun = "&!<a-3|=b-9?>cn";
        for (int end = 0; end <= begun.length(); end++) {
            GrownAsks x = new GrownAsks();
            Check.type(x, 1, begun.substring(0, end));
            x.grow(5, 9);
            check.due("fault of what is grown over " + begun.substring(0, end), x.fault(1), NONE);
            check.isTrue("bytes", Check.textOf(x, 1).equals(new Lots(5).test(9)));
        }
    }

    private static void growBad(Check check) {
        for (int r : NO_ROOMS) {
            check.refuses(State.BARE, "grow(0, " + r + ")", x -> x.grow(0, r), BAD);
            check.refuses(State.FULL, "grow(9, " + r + ")", x -> x.grow(9, r), BAD);
        }
    }

    private static void learn(Check check) {
        GrownAsks x = twoRows(ALL_RULES);
        Check.type(x, 1, "!=nn");
        check.due("0 and 1", x.learn(1), 1);
        check.due("again", x.learn(1), 0);
        check.due("all but one", x.learn(0), 27);
        check.due("again", x.learn(0), 0);
        check.due("all", x.count(5), 28);
        GrownAsks y = twoRows("!=1n");
        check.due("one RULE alone", y.learn(0), 0);
        y.set(0, 254);
        Check.type(y, 0, "!=nn");
        check.due("what is off does not FIRE", y.learn(0), 0);
        y.set(0, 255);
        y.empty();
        check.due("without ROWS", y.learn(0), 0);
        check.due("none", y.count(5), 0);
    }

    private static void learnBad(Check check) {
        for (int text : NO_TEXTS) check.refuses(State.RICH, "learn(" + text + ")", x -> x.learn(text), BAD);
    }

    private static void learnNot(Check check) {
        check.refuses(State.RICH, "learn(1)", x -> x.learn(1), NOT);
        check.refuses(State.BARE, "learn(0)", x -> x.learn(0), NOT);
        check.refuses(State.NEW, "learn(0)", x -> x.learn(0), NOT);
    }

    private static void learnt(Check check) {
        GrownAsks x = State.RICH.make(0);
        for (int a = 0; a < 8; a++) {
            for (int b = 0; b < 8; b++) {
                boolean both = (162 >> a & 1) == 1 && (162 >> b & 1) == 1;
                if (a != b) check.due("learnt(" + a + ", " + b + ")", x.learnt(a, b), both ? 1 : 0);
            }
        }
    }

    private static void learntBad(Check check) {
        for (int rule : new int[] {-1, 8, 32, 33, MOST, LEAST}) {
            check.refuses(State.RICH, "learnt(" + rule + ", 1)", x -> x.learnt(rule, 1), BAD);
            check.refuses(State.RICH, "learnt(5, " + rule + ")", x -> x.learnt(5, rule), BAD);
            check.refuses(State.RICH, "learnt(" + rule + ", " + rule + ")", x -> x.learnt(rule, rule), BAD);
        }
        for (int rule = 0; rule < 8; rule++) {
            int r = rule;
            check.refuses(State.RICH, "learnt(" + r + ", " + r + ")", x -> x.learnt(r, r), BAD);
        }
    }

    private static void next(Check check) {
        int[] seen = new int[31];
        for (int seed = 0; seed < 600; seed++) {
            GrownAsks x = new GrownAsks();
            x.row(3, 3, 3);
            int further = x.next(seed, 3);
            check.isTrue("next(" + seed + ", 3) is " + further, further >= NONE && further <= 29);
            if (further >= 0) {
                check.isTrue("a pair FIRES there", hits(seed + further, 3, 3, 3, 3));
                check.isTrue("none ahead of it", further == 0 || !hits(seed + further - 1, 3, 3, 3, 3));
            }
            seen[further + 1]++;
        }
        check.isTrue("some are 0 further", seen[1] > 0);
        check.due("NONE of no ROWS", new GrownAsks().next(0, 9), NONE);
    }

    private static void nextStays(Check check) {
        for (State from : new State[] {State.RICH, State.BARE, State.FULL}) {
            GrownAsks x = from.make(State.SIZE);
            for (int r = 1; r <= 9; r++) x.next(r, r);
            check.isTrue("TEXTS and all else of " + from, State.told(x).equals(State.told(from.make(State.SIZE))));
        }
    }

    private static void nextBad(Check check) {
        for (int r : NO_ROOMS) {
            check.refuses(State.RICH, "next(0, " + r + ")", x -> x.next(0, r), BAD);
            check.refuses(State.NEW, "next(0, " + r + ")", x -> x.next(0, r), BAD);
        }
    }
}
