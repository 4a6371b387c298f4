/** Promises 27 to 29: holds, seen, blind. */
public final class SeenTest {
    private static final int N = -100;

    private final Check check = new Check("SeenTest");

    public static void main(String[] args) {
        new SeenTest().all();
    }

    private void all() {
        holds();
        seen();
        blind();
        alone();
        refuses();
        check.end();
    }

    private void holds() {
        String[] tests = {"=an", "!=an", "?=bn", "|=a1=bn", "&<ab=an", "<0a", ">a5"};
        for (String test : tests) {
            GrownAsks x = Check.with(test);
            for (int law = 0; law < 7; law++) check.due("law " + law + " of " + test, x.holds(law), 1);
        }
    }

    /** FAULTS that each LAW SEES, as bits. */
    private void seenBy(String test, int... due) {
        GrownAsks x = Check.with(test);
        for (int law = 0; law < 7; law++) {
            int bits = 0;
            for (int fault = 0; fault < 8; fault++) bits |= x.seen(fault, law) << fault;
            check.due("seen by " + law + " of " + test, bits, due[law]);
        }
    }

    private void seen() {
        seenBy("=an", 1 | 32 | 128, 0, 0, 0, 0, 1 | 32 | 128, 4);
        seenBy("=a1", 1 | 32 | 128, 128, 0, 0, 0, 128, 4);
        seenBy("=c0", 128, 128, 0, 0, 0, 128, 0);
        seenBy("=c1", 128, 0, 0, 0, 0, 128, 0);
        seenBy("=b0", 1 | 32 | 128, 128, 0, 0, 0, 1 | 32 | 128, 4);
        seenBy("=a2", 1 | 32 | 128, 0, 0, 0, 0, 128, 4);
        seenBy("!=an", 128, 0, 0, 0, 0, 128, 4);
        // nothing in one kind of ROW, else yes: kinds by p are less only where there is no other ROW
        check.due("a NOTHING, b NOTHING alone", Check.with("|=a0|=a1=b0").seen(2, 6), 1);
        check.due("a NOTHING, b 0 alone", Check.with("|=a0|=a1?=b0").seen(2, 6), 1);
    }

    private void blindIs(String test, int due) {
        check.due("blind of " + test, Check.with(test).blind(), due);
    }

    private void blind() {
        blindIs("=an", 2);
        blindIs("!=an", 1);
        blindIs("?=an", 34);
        blindIs("<0a", 16);
        blindIs("<1a", 16);
        blindIs("<2a", 0);
        blindIs("<-1a", 0);
        blindIs("<0b", 16);
        blindIs("<1b", 0);
        blindIs("<0c", 16);
        blindIs("<1c", 0);
        blindIs("=bn", 2);
        blindIs("=cn", 0);
        blindIs("=ab", 2);
        blindIs("!>a5", 1 | 64);
        blindIs(">a5", 0);
        blindIs("?>a1", 32 | 64);
        blindIs("?>b0", 32);
        blindIs("?>b1", 32 | 64);
        blindIs("?|=cn=a1", 8);
        blindIs("&=c0=an", 2 | 4);
        blindIs("=c0", 0);
        blindIs("&?=b0<0a", 4 | 16 | 32);
        blindIs("&=b0<0a", 16);
    }

    /** Nothing of it hangs on THE TABLE, RULES and FAULTS as they are, or changes them. */
    private void alone() {
        GrownAsks x = Check.with("|<a3?=bn");
        x.row(5, N, 0);
        x.row(5, N, 0);
        x.set(0, 0);
        x.set(1, 255);
        long before = x.digest();
        check.due("blind", x.blind(), 34);
        check.due("seen", x.seen(7, 1), 1);
        check.due("seen", x.seen(1, 1), 0);
        check.due("holds", x.holds(1), 1);
        check.same("what is seen", before, x);
        check.due("rules", x.count(3), 0);
        check.due("faults", x.count(4), 255);
    }

    private void refuses() {
        GrownAsks x = Check.with("<a");
        Check.type(x, 1, "<ab");
        int[] bad = {-1, 7, Integer.MIN_VALUE, Integer.MAX_VALUE};
        for (int law : bad) {
            check.due("holds " + law, x.holds(law), -2);
            check.due("seen by " + law, x.seen(0, law), -2);
        }
        check.due("seen 8", x.seen(8, 0), -2);
        check.due("seen -1", x.seen(-1, 0), -2);
        check.due("seen 32", x.seen(32, 0), -2);
        check.due("seen NOT", x.seen(7, 6), -3);
        check.due("holds NOT", x.holds(6), -3);
        check.due("blind NOT", x.blind(), -3);
        x.type(0, 'b');
        check.due("holds", x.holds(6), 1);
    }
}
