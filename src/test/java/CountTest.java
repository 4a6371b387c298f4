/** Promises 36 and 37: count, digest. */
public final class CountTest {
    private static final int N = -100;

    private final Check check = new Check("CountTest");

    public static void main(String[] args) {
        new CountTest().all();
    }

    private void all() {
        count();
        countRefuses();
        digestOfNone();
        digestOfAll();
        digestStays();
        check.end();
    }

    private void count() {
        GrownAsks x = Check.with("&!=nn?=nn");
        Check.type(x, 1, "xyz");
        x.row(1, N, 2);
        x.row(N, N, N);
        x.set(0, 254);
        x.set(1, 129);
        int[] due = {2, 9, 3, 254, 129, 0, 4};
        for (int what = 0; what < 7; what++) check.due("count " + what, x.count(what), due[what]);
        x.set(0, 255);
        x.set(1, 0);
        x.learn(0);
        check.due("pairs", x.count(5), 6);
        x.put(0, 0, N);
        check.due("nothings", x.count(6), 5);
        x.put(1, 0, 3);
        check.due("nothings", x.count(6), 4);
        x.sheet(0, 0, 1);
        int[] findings = {x.lose(1), x.get(0, 0, 1) == 0 ? 0 : x.count(8), x.lay(0, 1, 0, 0), x.count(8)};
        int[] dueFindings = {-11, 2, -13, 3};
        for (int i = 0; i < 4; i++) check.due("finding " + i, findings[i], dueFindings[i]);
        x.sheet(1, 1, 1);
        check.due("STORE", x.copy(0, 0, 1, 0, 1), -14);
        check.due("finding", x.count(8), 4);
        check.due("SIZE", x.sheet(0, 0, -1), -15);
        check.due("finding", x.count(8), 5);
        check.due("BAD", x.lose(9), -2);
        check.due("finding stays", x.count(8), 5);
    }

    private void countRefuses() {
        GrownAsks x = new GrownAsks();
        int[] bad = {-1, 7, 9, Integer.MIN_VALUE, Integer.MAX_VALUE};
        for (int what : bad) check.due("count " + what, x.count(what), -2);
    }

    private static long digest(long... told) {
        long h = 17;
        for (long v : told) h = 31 * h + v;
        return h;
    }

    private void digestOfNone() {
        check.due("a new one", new GrownAsks().digest(), digest(0, 0, 0, 255, 0, 0, 0, 0, 0));
    }

    private void digestOfAll() {
        GrownAsks x = Check.with("!=an");
        Check.type(x, 1, "=a1&");
        x.row(1, N, 2);
        x.row(1, N, 2);
        x.row(N, 0, -9);
        x.set(1, 1);
        check.due("a fault in text 1", x.digest(), digest(3, 4, 4, 255, 1, 0, 3, 1, N, 2, 1, N, 2, N, 0, -9,
                -1, 2, 0, 7, 1 | 2 | 128, 0, 0, 0, 0, 0, 0, 0, 3));
        x.learn(0);
        x.set(1, 128);
        Check.type(x, 1, "=a1");
        check.due("none", x.digest(), digest(3, 4, 3, 255, 128, 3, 3, 1, N, 2, 1, N, 2, N, 0, -9,
                -1, 2, 0, 0, 1 | 2, 1, 0, 0, 0, 0, 1, 0, -1, 1, 3, 1, 128, 1, 1, 0, 0, 0, 1, 0));
    }

    private void digestStays() {
        GrownAsks x = Check.with("!=an");
        x.row(1, N, 2);
        long before = x.digest();
        x.sheet(0, 1, 4);
        x.lay(0, 1, 0, 3);
        x.lose(3);
        check.due("sheets and findings are not told", x.digest(), before);
        x.which(0);
        x.quarrels(0, 6);
        x.cut(0, 0);
        x.led(0);
        x.wrong(0, 0);
        x.next(0, 9);
        x.blind();
        check.due("asks change nothing", x.digest(), before);
    }
}
