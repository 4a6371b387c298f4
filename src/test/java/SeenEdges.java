import java.util.ArrayList;
import java.util.List;

/** 4 GROWN from SEEN on, Promises 27 to 29. */
final class SeenEdges {
    private static final int N = -100, BAD = -2, NOT = -3;
    private static final int MOST = Integer.MAX_VALUE, LEAST = Integer.MIN_VALUE;
    private static final int[] NO_LAWS = {-1, 7, 32, MOST, LEAST};
    private static final String[] TESTS = {"=an", "!=an", "?=an", "<0a", "|=a1=bn", "&=c0=an", "?>a1", "!>a5",
        "&?=b0<0a", "|<a3?=bn", "?|=cn=a1", "=c0", "=01", "&=a1=b0", "|=a0|=a1=b0", "|<n1!<a1"};

    private SeenEdges() {
    }

    static void addTo(Edges edges) {
        edges.at("4 GROWN");
        edges.add("SEEN by a LAW is a FAULT with TEXT 0,", SeenEdges::ofText0);
        edges.add("if, all RULES on and just that FAULT put in,", SeenEdges::justThat);
        edges.add("it QUARRELS on some SMALL table;", SeenEdges::quarrelsOnSome);
        edges.add("these have up to 2 ROWS,", SeenEdges::twoRows);
        edges.add("a NOTHING, 0 or 1, b NOTHING or 0 (the same in all), c 0.", SeenEdges::values);
        edges.add("HOLDS: whether a LAW does so without any FAULT on all of them.", SeenEdges::withoutFault);
        edges.add("BLIND are FAULTS, as bits, that no LAW that HOLDS SEES,", SeenEdges::unseen);
        edges.add("though WHICH is other than it is meant on some SMALL table with them.", SeenEdges::other);
        edges.at("Promise 27");
        edges.add("Whether a LAW HOLDS: 1, 0.", SeenEdges::holds);
        edges.add("BAD", SeenEdges::holdsBad);
        edges.add("NOT.", SeenEdges::holdsNot);
        edges.at("Promise 28");
        edges.add("Whether a FAULT is SEEN by a LAW: 1, 0.", SeenEdges::seen);
        edges.add("BAD", SeenEdges::seenBad);
        edges.add("NOT.", SeenEdges::seenNot);
        edges.at("Promise 29");
        edges.add("BLIND, as bits.", SeenEdges::blind);
        edges.add("NOT.", SeenEdges::blindNot);
    }

    /** An object with a TEST, FAULTS and each of the SMALL tables. */
    private static List<GrownAsks> smalls(String test, int faults) {
        List<GrownAsks> all = new ArrayList<>();
        int[] as = {N, 0, 1};
        all.add(Check.with(test));
        for (int b = N; b <= 0; b -= N) {
            for (int a : as) {
                all.add(with(test, new int[] {a, b, 0}));
                for (int second : as) all.add(with(test, new int[] {a, b, 0}, new int[] {second, b, 0}));
            }
        }
        for (GrownAsks x : all) x.set(1, faults);
        return all;
    }

    private static GrownAsks with(String test, int[]... rows) {
        GrownAsks x = Check.with(test);
        for (int[] r : rows) x.row(r[0], r[1], r[2]);
        return x;
    }

    private static boolean quarrels(String test, int faults, int law) {
        boolean some = false;
        for (GrownAsks x : smalls(test, faults)) some |= x.quarrels(0, law) == 1;
        return some;
    }

    private static boolean isOther(String test, int faults) {
        boolean some = false;
        for (GrownAsks x : smalls(test, faults)) some |= x.which(0) != x.meant(0);
        return some;
    }

    private static void ofText0(Check check) {
        GrownAsks x = Check.with("=c0");
        Check.type(x, 1, "=an");
        check.due("of TEXT 0", x.seen(0, 0), 0);
        Check.type(x, 0, "=an");
        Check.type(x, 1, "=c0");
        check.due("of TEXT 0", x.seen(0, 0), 1);
        x.wipe(1);
        check.due("whatever TEXT 1 is", x.seen(0, 0), 1);
    }

    private static void justThat(Check check) {
        for (int rules = 0; rules < 256; rules += 85) {
            for (int faults = 0; faults < 256; faults += 85) {
                GrownAsks x = with("=an", new int[] {1, 1, 1}, new int[] {1, 1, 1});
                x.set(0, rules);
                x.set(1, faults);
                check.due("FAULT 0 by LAW 0", x.seen(0, 0), 1);
                check.due("FAULT 5 by LAW 0", x.seen(5, 0), 1);
                check.due("FAULT 2 by LAW 0", x.seen(2, 0), 0);
                check.due("FAULT 2 by LAW 6", x.seen(2, 6), 1);
                check.due("RULES stay", x.count(3), rules);
                check.due("FAULTS stay", x.count(4), faults);
                check.due("THE TABLE stays", x.count(0), 2);
            }
        }
    }

    private static void quarrelsOnSome(Check check) {
        for (String test : TESTS) {
            GrownAsks x = Check.with(test);
            for (int fault = 0; fault < 8; fault++) {
                for (int law = 0; law < 7; law++) {
                    check.due(test + ": FAULT " + fault + " by LAW " + law, x.seen(fault, law),
                            quarrels(test, 1 << fault, law) ? 1 : 0);
                }
            }
        }
    }

    private static void twoRows(Check check) {
        check.due("two that are the same, yes", Check.with("=c0").seen(7, 1), 1);
        check.due("two that are the same, no", Check.with("=c1").seen(7, 0), 1);
        check.due("one alone", Check.with("=an").seen(0, 0), 1);
        check.due("none is none", Check.with("=01").seen(7, 1), 0);
        check.due("neither are the same", Check.with("=a2").seen(7, 1), 0);
    }

    /** RULE 4 fires where a COLUMN is like what is told, and no LAW sees its FAULT. */
    private static void values(Check check) {
        for (int v = -9; v <= 9; v++) {
            check.due("a may be " + v, Check.with("<" + v + "a").blind(), v == 0 || v == 1 ? 16 : 0);
            check.due("b may be " + v, Check.with("<" + v + "b").blind(), v == 0 ? 16 : 0);
            check.due("c may be " + v, Check.with("<" + v + "c").blind(), v == 0 ? 16 : 0);
        }
        check.due("a may be NOTHING", Check.with("=an").blind(), 2);
        check.due("b may be NOTHING", Check.with("=bn").blind(), 2);
        check.due("c may not", Check.with("=cn").blind(), 0);
        check.due("a and b NOTHING", Check.with("=ab").blind(), 2);
        int[][] kinds = {{N, N}, {0, N}, {1, N}, {N, 0}, {0, 0}, {1, 0}};
        for (int[] k : kinds) check.due("a ROW " + k[0] + ", " + k[1], just(k[0], k[1]).blind() & 16, 16);
    }

    /** A TEST that is wrong in that ROW alone: all must be yes, and the last is so by FAULT 4. */
    private static GrownAsks just(int a, int b) {
        String ofA = a == N ? "?=a0" : "=a" + a, ofB = b == N ? "?=b0" : "=b" + b;
        return Check.with("&" + ofA + "&" + ofB + "<0c");
    }

    private static void withoutFault(Check check) {
        for (String test : TESTS) {
            GrownAsks x = with(test, new int[] {1, 1, 1}, new int[] {1, 1, 1});
            x.set(1, 255);
            for (int law = 0; law < 7; law++) {
                check.due(test + ": LAW " + law, x.holds(law), quarrels(test, 0, law) ? 0 : 1);
            }
        }
    }

    private static int blindOf(String test) {
        int bits = 0;
        for (int fault = 0; fault < 8; fault++) {
            boolean seen = false;
            for (int law = 0; law < 7; law++) {
                seen |= !quarrels(test, 0, law) && quarrels(test, 1 << fault, law);
            }
            if (!seen && isOther(test, 1 << fault)) bits |= 1 << fault;
        }
        return bits;
    }

    private static void unseen(Check check) {
        for (String test : TESTS) check.due("blind of " + test, Check.with(test).blind(), blindOf(test));
        check.due("0 is SEEN by LAW 0 alone", Check.with("|<n1!<a1").blind(), 0);
        check.due("7 is SEEN by LAW 1", Check.with("=c0").blind() & 128, 0);
        check.due("2 is SEEN by LAW 6", Check.with("&=a1=b0").blind() & 4, 0);
    }

    private static void other(Check check) {
        check.due("0 and 6, though SEEN by none, are as meant", Check.with("=c0").blind(), 0);
        check.due("1 is other where both are NOTHING", Check.with("=an").blind(), 2);
        check.due("1 and 5 are", Check.with("?=an").blind(), 2 | 32);
        check.due("6 and 0 are", Check.with("!>a5").blind(), 1 | 64);
        check.due("6 is no other for WHICH", Check.with(">a5").blind(), 0);
    }

    private static void holds(Check check) {
        GrownAsks x = State.RICH.make(0);
        for (int law = 0; law < 7; law++) check.due("LAW " + law, x.holds(law), 1);
        check.due("though it QUARRELS as it is", x.quarrels(0, 1), 1);
    }

    private static void holdsBad(Check check) {
        for (int law : NO_LAWS) {
            check.refuses(State.RICH, "holds(" + law + ")", x -> x.holds(law), BAD);
            check.refuses(State.BARE, "holds(" + law + "), ahead of NOT", x -> x.holds(law), BAD);
        }
    }

    private static void holdsNot(Check check) {
        for (int law = 0; law < 7; law++) {
            int l = law;
            check.refuses(State.BARE, "holds(" + l + ")", x -> x.holds(l), NOT);
            check.refuses(State.NEW, "holds(" + l + ")", x -> x.holds(l), NOT);
        }
    }

    private static void seen(Check check) {
        int[] due = {1 | 32 | 128, 128, 0, 0, 0, 128, 4};
        GrownAsks x = Check.with("=a1");
        for (int law = 0; law < 7; law++) {
            for (int fault = 0; fault < 8; fault++) {
                check.due("FAULT " + fault + " by LAW " + law, x.seen(fault, law), due[law] >> fault & 1);
            }
        }
    }

    private static void seenBad(Check check) {
        for (int fault : new int[] {-1, 8, 32, MOST, LEAST}) {
            check.refuses(State.RICH, "seen(" + fault + ", 0)", x -> x.seen(fault, 0), BAD);
            check.refuses(State.BARE, "seen(" + fault + ", 0), ahead of NOT", x -> x.seen(fault, 0), BAD);
        }
        for (int law : NO_LAWS) {
            check.refuses(State.RICH, "seen(0, " + law + ")", x -> x.seen(0, law), BAD);
            check.refuses(State.BARE, "seen(0, " + law + "), ahead of NOT", x -> x.seen(0, law), BAD);
        }
    }

    private static void seenNot(Check check) {
        check.refuses(State.BARE, "seen(0, 0)", x -> x.seen(0, 0), NOT);
        check.refuses(State.BARE, "seen(7, 6)", x -> x.seen(7, 6), NOT);
        check.refuses(State.NEW, "seen(0, 0)", x -> x.seen(0, 0), NOT);
    }

    private static void blind(Check check) {
        GrownAsks x = State.RICH.make(0);
        check.due("of TEXT 0, as all RULES were on and no other FAULT in", x.blind(), 2 | 32);
        check.due("none", Check.with("=01").blind(), 0);
        check.due("2, 4 and 5", Check.with("&?=b0<0a").blind(), 4 | 16 | 32);
    }

    private static void blindNot(Check check) {
        check.refuses(State.BARE, "blind()", x -> x.blind(), NOT);
        check.refuses(State.NEW, "blind()", x -> x.blind(), NOT);
    }
}
