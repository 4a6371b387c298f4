/** Promises 7 to 13: type, wipe, fault, byteOf, acts, means, meant. */
public final class TextTest {
    private static final int N = -100;
    private static final int[] NO_TEXTS = {-1, 2, Integer.MIN_VALUE, Integer.MAX_VALUE};

    private final Check check = new Check("TextTest");

    public static void main(String[] args) {
        new TextTest().all();
    }

    private void all() {
        type();
        wipe();
        fault();
        faultOfEachByte();
        byteOf();
        acts();
        meansCompare();
        meansJoin();
        meansRefuses();
        meant();
        check.end();
    }

    private void type() {
        GrownAsks x = new GrownAsks();
        for (int text : NO_TEXTS) check.due("type in " + text, x.type(text, 60), -2);
        check.due("type -1", x.type(0, -1), -2);
        check.due("type 256", x.type(0, 256), -2);
        check.due("bytes", x.count(1), 0);
        for (int i = 0; i < 40; i++) {
            check.due("type", x.type(1, i % 2 == 0 ? 0 : 255), i + 1);
        }
        check.due("type 41st", x.type(1, 60), -4);
        check.due("type 41st, BAD first", x.type(1, 256), -2);
        check.due("bytes 0", x.count(1), 0);
        check.due("bytes 1", x.count(2), 40);
        check.due("other text", x.type(0, 60), 1);
    }

    private void wipe() {
        GrownAsks x = Check.with("<ab");
        Check.type(x, 1, "!<ab");
        for (int text : NO_TEXTS) check.due("wipe " + text, x.wipe(text), -2);
        check.due("wipe", x.wipe(0), 3);
        check.due("wipe again", x.wipe(0), 0);
        check.due("fault", x.fault(0), 0);
        check.due("other text", x.acts(1), 2);
        Check.type(x, 0, "x");
        x.wipe(0);
        Check.type(x, 0, "=nn");
        check.due("a fault is wiped, too", x.fault(0), -1);
    }

    private void fault() {
        String[] whole = {"<ab", "=n-0", ">-9c", "|<a3?=bn", "&!<ab|=a1>c0", "!!!!=nn", "<09", "&<ab&=bc>ca"};
        for (String t : whole) check.due("fault of " + t, Check.with(t).fault(0), -1);
        String[] faulty = {"", "<", "<a", "<a-", "&", "&<ab", "&<ab|<ab", "!", "?", "&|<ab<ab", "<-",
            "!!!!!!!!!!!!!!!!!!!!!!!!!!!!!!!!!!!!!!!!"};
        for (String t : faulty) check.due("fault of " + t, Check.with(t).fault(0), t.length());
        Object[][] at = {{"a", 0}, {"<d", 1}, {"<a<", 2}, {"<a--", 3}, {"<a-n", 3}, {"<a-a", 3}, {"<aba", 3},
            {"<ab<ab", 3}, {"<a10", 3}, {"<a-11", 4}, {"< ab", 1}, {"&<abx", 4}, {"!a", 1}, {"<A", 1},
            {"<ab\0\0\0", 3}, {"<-ab", 2}, {"xx", 0}, {"&<ab-", 4}, {"<&", 1}, {"<a/", 2}, {"<a:", 2},
            {"<`", 1}, {"<-/", 2}, {"<-:", 2}};
        for (Object[] a : at) check.due("fault of " + a[0], Check.with((String) a[0]).fault(0), (Integer) a[1]);
        GrownAsks x = new GrownAsks();
        Check.type(x, 1, "<ab");
        check.due("fault of 1", x.fault(1), -1);
        check.due("fault of 0", x.fault(0), 0);
        for (int text : NO_TEXTS) check.due("fault of " + text, x.fault(text), -2);
    }

    private void faultOfEachByte() {
        for (int b = 0; b < 256; b++) {
            GrownAsks x = new GrownAsks();
            x.type(0, b);
            check.due("fault of sign " + b, x.fault(0), "&|!?<=>".indexOf(b) >= 0 ? 1 : 0);
            Check.type(x, 0, "=");
            x.type(0, b);
            boolean ends = "abcn0123456789".indexOf(b) >= 0;
            check.due("fault of term " + b, x.fault(0), ends || b == '-' ? 2 : 1);
            x.type(0, 'a');
            check.due("fault behind term " + b, x.fault(0), ends ? -1 : b == '-' ? 2 : 1);
            Check.type(x, 0, "=-");
            x.type(0, b);
            check.due("fault of figure " + b, x.fault(0), b >= '0' && b <= '9' ? 3 : 2);
        }
    }

    private void byteOf() {
        GrownAsks x = new GrownAsks();
        x.type(0, 255);
        x.type(0, 0);
        x.type(1, 7);
        check.due("byte 0", x.byteOf(0, 0), 255);
        check.due("byte 1", x.byteOf(0, 1), 0);
        check.due("byte 2", x.byteOf(0, 2), -1);
        check.due("byte of 1", x.byteOf(1, 0), 7);
        check.due("byte far", x.byteOf(0, Integer.MAX_VALUE), -1);
        check.due("byte 40", x.byteOf(0, 40), -1);
        check.due("byte -1", x.byteOf(0, -1), -2);
        check.due("byte least", x.byteOf(0, Integer.MIN_VALUE), -2);
        for (int text : NO_TEXTS) check.due("byteOf " + text, x.byteOf(text, 0), -2);
        x.wipe(0);
        check.due("byte of a wiped one", x.byteOf(0, 0), -1);
    }

    private void acts() {
        Object[][] due = {{"<ab", 1}, {"|<a3?=bn", 4}, {"&!<ab|=a1>c0", 6}, {"!!!!=nn", 5}, {"=-1-2", 1},
            {"!!!!!!!!!!!!!!!!!!!!!!!!!!!!!!!!!!!!!<ab", 38}};
        for (Object[] d : due) check.due("acts of " + d[0], Check.with((String) d[0]).acts(0), (Integer) d[1]);
        GrownAsks x = Check.with("<a");
        check.due("acts with a fault", x.acts(0), -3);
        check.due("acts of an empty one", x.acts(1), -3);
        check.due("acts of one too long", Check.with("<abc").acts(0), -3);
        for (int text : NO_TEXTS) check.due("acts of " + text, x.acts(text), -2);
    }

    private void meansCompare() {
        int[] values = {-9, -1, 0, 1, 9, N};
        for (int a : values) {
            for (int b : values) {
                GrownAsks x = new GrownAsks();
                x.row(a, 0, b);
                boolean none = a == N || b == N;
                check.due("< " + a + " " + b, means(x, "<ac"), none ? 2 : a < b ? 1 : 0);
                check.due("= " + a + " " + b, means(x, "=ac"), none ? 2 : a == b ? 1 : 0);
                check.due("> " + a + " " + b, means(x, ">ac"), none ? 2 : a > b ? 1 : 0);
                String told = b == N ? "n" : String.valueOf(b);
                check.due("= told " + told, means(x, "=c" + told), b == N ? 2 : 1);
                check.due("< told " + told, means(x, "<" + told + "a"), none ? 2 : b < a ? 1 : 0);
            }
        }
        GrownAsks x = new GrownAsks();
        x.row(0, 5, 0);
        check.due("-0", means(x, "=a-0"), 1);
        check.due("b", means(x, "=b5"), 1);
    }

    private static int means(GrownAsks x, String test) {
        Check.type(x, 1, test);
        return x.means(1, 0, 0);
    }

    /** Yes, no and nothing as TESTS of a ROW of NOTHINGS, by their numbers. */
    private static final String[] TESTS = {"=01", "=11", "=an"};

    private void meansJoin() {
        int[] turned = {1, 0, 2}, asked = {0, 0, 1};
        int[][] both = {{0, 0, 0}, {0, 1, 2}, {0, 2, 2}};
        int[][] either = {{0, 1, 2}, {1, 1, 1}, {2, 1, 2}};
        GrownAsks x = new GrownAsks();
        x.row(N, N, N);
        for (int faults = 0; faults < 256; faults += 255) {
            x.set(1, faults);
            for (int v = 0; v < 3; v++) {
                check.due("means " + v, means(x, TESTS[v]), v);
                check.due("! " + v, means(x, "!" + TESTS[v]), turned[v]);
                check.due("? " + v, means(x, "?" + TESTS[v]), asked[v]);
                for (int w = 0; w < 3; w++) {
                    check.due("& " + v + w, means(x, "&" + TESTS[v] + TESTS[w]), both[v][w]);
                    check.due("| " + v + w, means(x, "|" + TESTS[v] + TESTS[w]), either[v][w]);
                }
            }
        }
    }

    private void meansRefuses() {
        GrownAsks x = Check.with("&!<ab|=a1>c0");
        check.due("no rows", x.means(0, 0, 0), -2);
        x.row(1, 2, 3);
        x.row(5, 5, -5);
        int[][] due = {{0, 0}, {0, 1}, {1, 0}, {1, 0}, {1, 0}, {1, 0}};
        for (int act = 0; act < 6; act++) {
            for (int row = 0; row < 2; row++) check.due("act " + act + " row " + row, x.means(0, act, row), due[act][row]);
        }
        int[][] bad = {{2, 0, 0}, {-1, 0, 0}, {0, -1, 0}, {0, 6, 0}, {0, 0, 2}, {0, 0, -1}, {0, 40, 0},
            {0, Integer.MAX_VALUE, 0}, {0, 0, Integer.MAX_VALUE}, {0, 0, 8}};
        for (int[] b : bad) check.due("means BAD", x.means(b[0], b[1], b[2]), -2);
        check.due("NOT ahead of an act beyond", x.means(1, 6, 0), -3);
        check.due("NOT ahead of an act far beyond", x.means(1, Integer.MAX_VALUE, 0), -3);
        check.due("an act below 0 ahead of NOT", x.means(1, -1, 0), -2);
        check.due("no such row ahead of NOT", x.means(1, 0, 2), -2);
        check.due("NOT", x.means(1, 0, 1), -3);
    }

    private void meant() {
        GrownAsks x = Check.with("<a3");
        Check.type(x, 1, "!<a3");
        check.due("meant of none", x.meant(0), 0);
        int[] as = {1, 3, N, 2, 9, N, -9, 0};
        for (int a : as) x.row(a, 0, 0);
        x.set(1, 255);
        check.due("meant", x.meant(0), 1 | 8 | 64 | 128);
        check.due("meant of 1", x.meant(1), 2 | 16);
        x.wipe(0);
        check.due("meant of a fault", x.meant(0), -3);
        for (int text : NO_TEXTS) check.due("meant of " + text, x.meant(text), -2);
    }
}
