/** Promises 23 to 26: grow, learn, learnt, next. */
public final class GrowTest {
    private static final int N = -100;
    private static final int[] NO_ROOMS = {0, 10, -1, Integer.MIN_VALUE, Integer.MAX_VALUE};

    private final Check check = new Check("GrowTest");

    public static void main(String[] args) {
        new GrowTest().all();
    }

    private void all() {
        growByHand();
        growByLots();
        growRefuses();
        learn();
        learnRefuses();
        next();
        nextAtItsEnds();
        nextRefuses();
        check.end();
    }

    /** LOTS of SEED 0 with room 1: 0 of 3 (12345 has no upper bits), then those that follow. */
    private void growByHand() {
        int seed = 0;
        int[] upper = new int[5];
        for (int i = 0; i < 5; i++) {
            seed = 1103515245 * seed + 12345;
            upper[i] = seed >>> 16;
        }
        check.due("first upper bits", upper[0], 0);
        GrownAsks x = new GrownAsks();
        int bytes = x.grow(0, 1);
        check.due("sign", x.byteOf(1, 0), '<');
        int kind = upper[1] % 6;
        int want = kind < 3 ? 'a' + kind : kind == 3 ? 'n' : kind == 4 ? '0' + upper[2] % 10 : '-';
        check.due("first term", x.byteOf(1, 1), want);
        check.due("bytes", x.count(2), bytes);
        check.due("no fault", x.fault(1), -1);
    }

    private void growByLots() {
        int[] seeds = {0, 1, -1, 5, 6, -7, 123456789, Integer.MIN_VALUE, Integer.MAX_VALUE};
        GrownAsks x = Check.with("<ab");
        x.row(1, 2, 3);
        PlainAsks plain = new PlainAsks();
        for (int i = 0; i < 600; i++) {
            int seed = i < seeds.length ? seeds[i] : seeds[i % seeds.length] + 7919 * i;
            for (int r = 1; r <= 9; r++) {
                check.due("grow(" + seed + ", " + r + ")", x.grow(seed, r), plain.grow(seed, r));
                check.due("acts are no more than the room", x.acts(1) <= r && x.acts(1) > 0 ? 1 : 0, 1);
                check.isTrue("grow(" + seed + ", " + r + ") bytes", sameBytes(x, plain));
            }
            x = i % 50 == 0 ? Check.with("<ab") : x;
        }
        check.due("text 0 stays", x.fault(0), -1);
        check.due("text 0 stays", x.count(1), 3);
        x.type(1, 'x');
        check.due("typed behind", x.fault(1), x.count(2) - 1);
        x.grow(3, 5);
        check.due("what was there is gone", x.fault(1), -1);
    }

    private static boolean sameBytes(GrownAsks x, PlainAsks plain) {
        for (int i = 0; i < 41; i++) {
            if (x.byteOf(1, i) != plain.byteOf(1, i)) return false;
        }
        return true;
    }

    private void growRefuses() {
        GrownAsks x = new GrownAsks();
        x.grow(1, 3);
        long before = x.digest();
        for (int r : NO_ROOMS) check.due("grow room " + r, x.grow(9, r), -2);
        check.same("grow", before, x);
    }

    private void learn() {
        GrownAsks x = Check.with("!=nn");
        Check.type(x, 1, "?=nn");
        check.due("no rows", x.learn(0), 0);
        x.row(1, 1, 1);
        check.due("0 with 1", x.learn(0), 1);
        check.due("again", x.learn(0), 0);
        check.due("learnt", x.learnt(0, 1), 1);
        check.due("either order", x.learnt(1, 0), 1);
        check.due("not this", x.learnt(1, 5), 0);
        check.due("1 with 5", x.learn(1), 1);
        check.due("learnt", x.learnt(5, 1), 1);
        check.due("not this", x.learnt(0, 5), 0);
        check.due("pairs", x.count(5), 2);
        Check.type(x, 0, "&!=nn?=nn");
        check.due("0, 1, 2, 5: six pairs, four new", x.learn(0), 4);
        check.due("pairs", x.count(5), 6);
        Check.type(x, 0, "!=an");
        check.due("one alone is no pair", x.learn(0), 0);
        x.row(1, 1, 1);
        Check.type(x, 0, "|!=bn=a1");
        check.due("0 with 7", x.learn(0), 1);
        x.set(0, 1);
        Check.type(x, 0, "&=an|=a2=an");
        check.due("what is off does not fire", x.learn(0), 0);
        x.set(0, 0);
        x.empty();
        x.wipe(0);
        check.due("learnt stays", x.count(5), 7);
        check.due("learnt stays", x.learnt(0, 1), 1);
    }

    private void learnRefuses() {
        GrownAsks x = Check.with("<a");
        check.due("learn NOT", x.learn(0), -3);
        check.due("learn NOT", x.learn(1), -3);
        check.due("learn -1", x.learn(-1), -2);
        check.due("learn 2", x.learn(2), -2);
        int[][] bad = {{-1, 0}, {8, 0}, {0, -1}, {0, 8}, {0, 0}, {7, 7}, {Integer.MAX_VALUE, 1},
            {1, Integer.MIN_VALUE}, {32, 0}, {0, 33}};
        for (int[] b : bad) check.due("learnt" + b[0] + "," + b[1], x.learnt(b[0], b[1]), -2);
        check.due("learnt", x.learnt(7, 0), 0);
    }

    private void next() {
        GrownAsks x = Check.with("<ab");
        Check.type(x, 1, ">ab");
        check.due("without rows nothing fires", x.next(0, 9), -1);
        x.row(0, 1, N);
        x.row(N, N, N);
        check.due("as told", x.next(0, 5), 1);
        check.due("one act fires no pair", x.next(1, 1), -1);
        check.isTrue("texts stay", Check.textOf(x, 0).equals("<ab") && Check.textOf(x, 1).equals(">ab"));
        check.due("nothing is learnt by it", x.count(5), 0);
        nextIsFirst(x, 0, 5);
        nextIsFirst(x, Integer.MAX_VALUE - 1, 3);
        nextIsFirst(x, -100, 4);
        int tries = 0;
        for (int seed = 0; seed < 400 && tries < 40; seed += 30, tries++) {
            int further = x.next(seed, 9);
            if (further < 0) continue;
            x.grow(seed + further, 9);
            check.isTrue("it fires a pair that is new", x.learn(1) > 0);
            check.isTrue("then it goes on", x.next(seed, 9) == -1 || x.next(seed, 9) > further);
        }
        x.set(0, 1);
        check.due("one rule alone is no pair", x.next(0, 9), -1);
    }

    /** Of 30 SEEDS the first is the one itself, and the one that is 30 further is not tried. */
    private void nextAtItsEnds() {
        GrownAsks x = new GrownAsks();
        x.row(3, 3, 3);
        int gap = 0, found = 0;
        for (int seed = 0; seed < 100000 && found < 3; seed++) {
            x.grow(seed, 2);
            boolean hit = Integer.bitCount(x.fired(1)) > 1;
            if (hit) check.due("next(" + seed + ", 2)", x.next(seed, 2), 0);
            if (hit && gap >= 30) {
                found++;
                check.due("next 29 ahead of " + seed, x.next(seed - 29, 2), 29);
                check.due("next 30 ahead of " + seed, x.next(seed - 30, 2), -1);
            }
            gap = hit ? 0 : gap + 1;
            x = fresh(x, seed);
        }
        check.isTrue("there are such gaps", found == 3);
    }

    /** An object is used for at most 512 calls. */
    private static GrownAsks fresh(GrownAsks x, int seed) {
        if (seed % 50 != 0) return x;
        GrownAsks y = new GrownAsks();
        y.row(3, 3, 3);
        return y;
    }

    /** By grow() and fired() on an object that has LEARNT nothing. */
    private void nextIsFirst(GrownAsks x, int seed, int r) {
        int want = -1;
        for (int k = 0; k < 30 && want < 0; k++) {
            x.grow(seed + k, r);
            if (Integer.bitCount(x.fired(1)) > 1) want = k;
        }
        check.due("next(" + seed + ", " + r + ")", x.next(seed, r), want);
    }

    private void nextRefuses() {
        GrownAsks x = new GrownAsks();
        for (int r : NO_ROOMS) check.due("next room " + r, x.next(0, r), -2);
    }
}
