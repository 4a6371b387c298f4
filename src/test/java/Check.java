import java.util.function.ToLongFunction;

/** Counts what is not as due, and tells it. */
final class Check {
    private final String name;
    private int asked = 0, wrong = 0;

    Check(String name) {
        this.name = name;
    }

    void due(String call, long got, long want) {
        asked++;
        if (got != want) {
            wrong++;
            System.out.println(name + ": " + call + " answered " + got + ", due is " + want);
        }
    }

    void isTrue(String what, boolean holds) {
        due(what, holds ? 1 : 0, 1);
    }

    boolean isGood() {
        return wrong == 0 && asked > 0;
    }

    void end() {
        System.out.println(name + ": " + asked + " asked, " + wrong + " not as due");
        if (!isGood()) {
            System.exit(1);
        }
    }

    /** A new object with a TEST as TEXT 0. */
    static GrownAsks with(String test) {
        GrownAsks x = new GrownAsks();
        type(x, 0, test);
        return x;
    }

    static void type(GrownAsks x, int text, String test) {
        x.wipe(text);
        for (int i = 0; i < test.length(); i++) {
            x.type(text, test.charAt(i));
        }
    }

    static String textOf(GrownAsks x, int text) {
        StringBuilder all = new StringBuilder();
        for (int i = 0; i < 40 && x.byteOf(text, i) != GrownAsks.NONE; i++) {
            all.append((char) x.byteOf(text, i));
        }
        return all.toString();
    }

    /** That a refused call left all as it was, the latest FINDING aside. */
    void same(String call, long before, GrownAsks x) {
        due(call + " changes nothing", x.digest(), before);
    }

    /** That a call is refused with an answer that is no FINDING, and changes nothing at all. */
    void refuses(State from, String call, ToLongFunction<GrownAsks> ask, long answer) {
        refused(from, State.SIZE, call, ask, answer, State.SIZE);
    }

    /** That a call is refused with a FINDING, and changes nothing but the latest one. */
    void finds(State from, String call, ToLongFunction<GrownAsks> ask, int number) {
        findsAs(from, call, ask, number, -10 - number);
    }

    void findsAs(State from, String call, ToLongFunction<GrownAsks> ask, int number, long answer) {
        int before = number == State.SIZE ? State.NULL : State.SIZE;
        refused(from, before, call, ask, answer, number);
    }

    private void refused(State from, int before, String call, ToLongFunction<GrownAsks> ask,
            long answer, int latest) {
        GrownAsks x = from.make(before);
        due(from + ": " + call, ask.applyAsLong(x), answer);
        due(from + ": the latest FINDING behind " + call, x.count(8), latest);
        isTrue(from + ": " + call + " changes nothing", State.told(x).equals(State.told(from.make(before))));
    }
}
