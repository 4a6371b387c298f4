/** Promises 14 to 18: set, has, which, fired, tell, and what each RULE does with its FAULT. */
public final class EngineTest {
    private static final int N = -100;
    private static final int[] NO_TEXTS = {-1, 2, Integer.MIN_VALUE, Integer.MAX_VALUE};

    private final Check check = new Check("EngineTest");

    public static void main(String[] args) {
        new EngineTest().all();
    }

    private void all() {
        set();
        firing();
        notFiring();
        firedAsTheEngineHasIt();
        has();
        which();
        sameRows();
        fired();
        tell();
        check.end();
    }

    private void set() {
        GrownAsks x = new GrownAsks();
        check.due("rules at first", x.set(0, 0), 255);
        check.due("faults at first", x.set(1, 255), 0);
        check.due("rules", x.set(0, 170), 0);
        check.due("faults", x.set(1, 1), 255);
        check.due("count 3", x.count(3), 170);
        check.due("count 4", x.count(4), 1);
        int[][] bad = {{-1, 0}, {2, 0}, {0, -1}, {0, 256}, {1, -1}, {1, 256}, {Integer.MAX_VALUE, 0},
            {0, Integer.MIN_VALUE}, {1, Integer.MAX_VALUE}};
        for (int[] b : bad) check.due("set(" + b[0] + ", " + b[1] + ")", x.set(b[0], b[1]), -2);
        check.due("rules stay", x.set(0, 0), 170);
        check.due("faults stay", x.set(1, 0), 1);
    }

    /** In a ROW a, b, c: the RULE fires; without its FAULT the MEANING, with it the other. */
    private void firing() {
        fires(0, "!=an", 1, 0, 0, 2, 1);
        fires(0, "!<ab", N, 0, 0, 2, 1);
        fires(1, "=nn", 0, 0, 0, 2, 1);
        fires(1, "=an", N, 0, 0, 2, 1);
        fires(1, "=na", N, 0, 0, 2, 1);
        fires(1, "=bc", 0, N, N, 2, 1);
        fires(2, "&=a1=bn", 1, 0, 0, 2, 1);
        fires(2, "&=bn=a1", 1, 0, 0, 2, 1);
        fires(3, "|=a2=bn", 1, 0, 0, 2, 0);
        fires(3, "|=bn=a2", 1, 0, 0, 2, 0);
        fires(4, "<ab", 3, 3, 0, 0, 1);
        fires(4, "<aa", 3, 0, 0, 0, 1);
        fires(4, "<-4c", 3, 3, -4, 0, 1);
        fires(4, "<0c", 3, 3, 0, 0, 1);
        fires(5, "?<an", 1, 0, 0, 1, 0);
        fires(5, "?=a1", N, 0, 0, 1, 0);
        fires(5, "?>ba", N, 0, 0, 1, 0);
        fires(6, ">a5", 4, 0, 0, 0, 2);
        fires(6, ">b-3", 4, -4, 0, 0, 2);
        fires(6, ">c0", 4, -4, -9, 0, 2);
        fires(6, ">c-0", 4, -4, -9, 0, 2);
    }

    private void fires(int rule, String test, int a, int b, int c, int without, int with) {
        GrownAsks x = Check.with(test);
        x.row(a, b, c);
        String told = test + " of " + a + " " + b + " " + c;
        check.due(told, x.has(0, 0, 0), without);
        check.due(told + " is meant", x.means(0, 0, 0), without);
        check.due(told + " fires " + rule, x.fired(0) >> rule & 1, 1);
        x.set(1, 255 & ~(1 << rule));
        int others = x.has(0, 0, 0);
        check.due(told + " without the fault " + rule, others, without);
        x.set(1, 1 << rule);
        check.due(told + " with the fault " + rule, x.has(0, 0, 0), with);
        check.due(told + " still fires " + rule, x.fired(0) >> rule & 1, 1);
        check.due(told + " is still meant", x.means(0, 0, 0), without);
        check.due(told + " which", x.which(0), with == 1 ? 1 : 0);
        x.set(0, 255 & ~(1 << rule));
        check.due(told + " with the rule off", x.has(0, 0, 0), without);
        check.due(told + " does not fire when off", x.fired(0) >> rule & 1, 0);
    }

    /** What FIRES in all, with all FAULTS put in or none, that no RULE does so beside its place. */
    private void notFiring() {
        firesJust("<nn", 0, 0, 0, 0);
        firesJust(">nn", 0, 0, 0, 0);
        firesJust("=an", 1, 0, 0, 0);
        firesJust("=ab", 1, N, 0, 0);
        firesJust("=ab", 1, 1, 0, 0);
        firesJust("!=ab", 1, 1, 0, 0);
        firesJust("!=ab", 1, 2, 0, 0);
        firesJust("&=an=an", 1, 0, 0, 0);
        firesJust("&=a1=a1", 1, 0, 0, 0);
        firesJust("&=a2=an", 1, 0, 0, 0);
        firesJust("|=an=an", 1, 0, 0, 0);
        firesJust("|=a1=an", 1, 0, 0, 0);
        firesJust("|=a2=a2", 1, 0, 0, 0);
        firesJust("<a1", 1, 0, 0, 0);
        firesJust("<ab", 1, 2, 0, 0);
        firesJust("<ab", 2, 1, 0, 0);
        firesJust("<ab", N, N, 0, 0);
        firesJust("<an", N, N, 0, 0);
        firesJust("<11", 0, 0, 0, 0);
        firesJust(">ab", 1, 1, 0, 0);
        firesJust("=ab", 1, 1, 0, 0);
        firesJust("?=a1", 1, 0, 0, 0);
        firesJust("?&=an=bn", 1, 1, 0, 0);
        firesJust("??=a1", 1, 0, 0, 0);
        firesJust(">a4", 4, 0, 0, 0);
        firesJust(">a3", 4, 0, 0, 0);
        firesJust(">a5", N, 0, 0, 0);
        firesJust(">ab", 1, 2, 0, 0);
        firesJust(">an", 1, 2, 0, 0);
        firesJust(">12", 1, 2, 0, 0);
        firesJust(">1b", 1, 2, 0, 0);
        firesJust("<a5", 4, 0, 0, 0);
        firesJust("=a5", 4, 0, 0, 0);
    }

    private void firesJust(String test, int a, int b, int c, int fired) {
        GrownAsks x = Check.with(test);
        x.row(a, b, c);
        String told = test + " of " + a + " " + b + " " + c;
        for (int faults = 0; faults < 256; faults += 255) {
            x.set(1, faults);
            check.due(told + " fires", x.fired(0), fired);
            check.due(told + " as meant", x.has(0, 0, 0), x.means(0, 0, 0));
        }
    }

    private void firedAsTheEngineHasIt() {
        GrownAsks x = Check.with("!=nn");
        x.row(0, 0, 0);
        check.due("!=nn fires", x.fired(0), 3);
        x.set(1, 2);
        check.due("!=nn fires when = is yes", x.fired(0), 2);
        Check.type(x, 0, "?=nn");
        check.due("?=nn fires when = is yes", x.fired(0), 2);
        check.due("?=nn is no then", x.has(0, 0, 0), 0);
        x.set(1, 0);
        check.due("?=nn fires", x.fired(0), 34);
        Check.type(x, 0, "?!=nn");
        check.due("?!=nn does not fire 5", x.fired(0), 3);
        Check.type(x, 0, "&!=nn=00");
        check.due("& of nothing and yes fires", x.fired(0), 7);
        x.set(1, 1);
        check.due("& of yes and yes does not", x.fired(0), 3);
        Check.type(x, 0, "|=00&=nn=00");
        check.due("all acts are looked at", x.fired(0), 6);
        Check.type(x, 0, "&=01|=nn=01");
        check.due("all acts are looked at", x.fired(0), 10);
    }

    private void has() {
        GrownAsks x = Check.with("&!<ab|=a1>c0");
        check.due("no rows", x.has(0, 0, 0), -2);
        x.row(N, 0, 0);
        x.row(5, 5, 5);
        x.set(1, 17);
        int[][] due = {{2, 0}, {1, 0}, {2, 1}, {2, 1}, {2, 0}, {0, 1}};
        for (int act = 0; act < 6; act++) {
            for (int row = 0; row < 2; row++) check.due("has " + act + " " + row, x.has(0, act, row), due[act][row]);
        }
        int[][] bad = {{2, 0, 0}, {-1, 0, 0}, {0, -1, 0}, {0, 6, 0}, {0, 0, 2}, {0, 0, -1}, {0, 40, 0},
            {0, Integer.MAX_VALUE, 0}, {0, 0, Integer.MAX_VALUE}};
        for (int[] b : bad) check.due("has BAD", x.has(b[0], b[1], b[2]), -2);
        check.due("NOT ahead of an act beyond", x.has(1, 6, 0), -3);
        check.due("an act below 0 ahead of NOT", x.has(1, -1, 0), -2);
        check.due("no such row ahead of NOT", x.has(1, 0, 2), -2);
        check.due("NOT", x.has(1, 0, 1), -3);
    }

    private void which() {
        GrownAsks x = Check.with("!<a3");
        Check.type(x, 1, "<a3");
        check.due("which of no rows", x.which(0), 0);
        int[] as = {1, 3, N, 2, 9, N, -9, 0};
        for (int i = 0; i < 8; i++) x.row(as[i], i, 0);
        check.due("which", x.which(0), 2 | 16);
        check.due("which of 1", x.which(1), 1 | 8 | 64 | 128);
        x.set(1, 1);
        check.due("which with a fault", x.which(0), 2 | 4 | 16 | 32);
        x.set(0, 254);
        check.due("which with the rule off", x.which(0), 2 | 16);
        x.wipe(0);
        check.due("which of a fault", x.which(0), -3);
        for (int text : NO_TEXTS) check.due("which of " + text, x.which(text), -2);
    }

    private void sameRows() {
        GrownAsks x = Check.with("=a1");
        int[][] rows = {{1, N, 0}, {1, N, 1}, {1, N, 0}, {2, N, 0}, {2, N, 0}, {1, N, 0}, {1, N, 1}, {1, 0, 0}};
        for (int[] r : rows) x.row(r[0], r[1], r[2]);
        check.due("same rows stay", x.which(0), 231);
        check.due("same rows fire", x.fired(0), 128);
        x.set(1, 128);
        check.due("all but the first are left out", x.which(0), 1 | 2 | 128);
        check.due("has stays", x.has(0, 0, 5), 1);
        check.due("same rows fire with it", x.fired(0), 128);
        x.set(0, 127);
        check.due("rule 7 off", x.which(0), 231);
        check.due("rule 7 off does not fire", x.fired(0), 0);
        x.set(0, 255);
        Check.type(x, 0, "=a0");
        check.due("same rows without yes do not fire", x.fired(0), 0);
        Check.type(x, 0, "=a2");
        check.due("the others", x.which(0), 8);
        check.due("put", x.put(3, 1, 5), N);
        check.due("no more the same", x.which(0), 24);
        check.due("no more the same", x.fired(0), 0);
        check.due("put", x.put(4, 1, 5), N);
        check.due("the same again", x.which(0), 8);
        Check.type(x, 0, "!=an");
        x.set(1, 0);
        check.due("nothing is not yes", x.fired(0), 1);
        x.set(1, 129);
        check.due("yes as the engine has it", x.fired(0), 129);
        check.due("yes as the engine has it", x.which(0), 1 | 2 | 8 | 128);
        x.empty();
        for (int i = 0; i < 3; i++) x.row(i, 0, 0);
        check.due("after empty", x.which(0), 7);
    }

    private void fired() {
        GrownAsks x = Check.with("&!<ab|=a1>c0");
        check.due("fired of no rows", x.fired(0), 0);
        x.row(1, 2, 3);
        x.row(N, 0, 0);
        x.row(5, 5, 5);
        check.due("fired", x.fired(0), 25);
        x.set(0, 24);
        check.due("fired of those on", x.fired(0), 24);
        x.set(0, 230);
        check.due("fired of those off", x.fired(0), 0);
        check.due("fired of a fault", x.fired(1), -3);
        for (int text : NO_TEXTS) check.due("fired of " + text, x.fired(text), -2);
    }

    private void tell() {
        GrownAsks x = Check.with("<a9");
        for (int what = 0; what < 3; what++) {
            for (int column = 0; column < 3; column++) check.due("tell of none", x.tell(0, what, column), 0);
        }
        int[][] rows = {{-9, N, 4}, {8, N, N}, {9, 9, 9}, {8, -3, 4}, {N, 7, 7}, {8, -3, 4}};
        for (int[] r : rows) x.row(r[0], r[1], r[2]);
        int[][] due = {{4, 4, 4}, {15, -6, 12}, {2, 2, 2}};
        tells(x, due);
        x.set(1, 128);
        tells(x, new int[][] {{3, 3, 3}, {7, -3, 8}, {2, 2, 2}});
        int[][] bad = {{-1, 0, 0}, {2, 0, 0}, {0, -1, 0}, {0, 3, 0}, {0, 0, 3}, {0, 0, -1}, {0, 1, 3},
            {0, 2, -1}, {1, 3, 0}, {1, 0, 3}};
        for (int[] b : bad) check.due("tell BAD", x.tell(b[0], b[1], b[2]), -1000);
        check.due("tell NOT", x.tell(1, 0, 0), -1001);
        Check.type(x, 1, "|>a0<a1");
        check.due("kinds", x.tell(1, 2, 1), 3);
        x.put(0, 2, -9);
        check.due("NOTHING and -9 are unlike", x.tell(1, 2, 2), 4);
        check.due("total", x.tell(1, 1, 0), 16);
    }

    private void tells(GrownAsks x, int[][] due) {
        for (int what = 0; what < 3; what++) {
            for (int column = 0; column < 3; column++) {
                check.due("tell " + what + " " + column, x.tell(0, what, column), due[what][column]);
            }
        }
    }
}
