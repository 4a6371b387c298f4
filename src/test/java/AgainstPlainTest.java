import java.lang.reflect.Method;
import java.util.ArrayList;
import java.util.Arrays;
import java.util.Comparator;
import java.util.List;
import java.util.Random;

/** Long runs of calls by lots, held against the document word by word (PlainAsks). */
public final class AgainstPlainTest {
    private static final int RUNS = 300, FULL_RUNS = 1500, CALLS = 512;
    private static final int[] EDGES = {-2147483648, -101, -100, -99, -10, -9, -1, 0, 1, 2, 3, 4, 5, 6,
        7, 8, 9, 10, 11, 29, 30, 38, 39, 40, 41, 47, 48, 49, 127, 128, 255, 256, 2147483647};
    private static final long[] LONGS = {Long.MIN_VALUE, -4294967296L, -32769, -129, -128, -101, -100,
        -99, -10, -9, -1, 0, 1, 9, 10, 127, 128, 156, 255, 32768, 65436, 4294967297L, 4294967196L,
        Long.MAX_VALUE};

    private final Check check = new Check("AgainstPlainTest");
    private final List<Method> calls = new ArrayList<>();
    private final List<Method> plainCalls = new ArrayList<>();
    private Random lots;
    private GrownAsks asks;
    private PlainAsks plain;
    private int left;
    private int run;

    public static void main(String[] args) throws Exception {
        new AgainstPlainTest().all();
    }

    private void all() throws Exception {
        for (Method m : GrownAsks.class.getDeclaredMethods()) {
            if (java.lang.reflect.Modifier.isPublic(m.getModifiers())) calls.add(m);
        }
        calls.sort(Comparator.comparing(Method::getName));
        for (Method m : calls) {
            plainCalls.add(PlainAsks.class.getDeclaredMethod(m.getName(), m.getParameterTypes()));
        }
        check.due("public calls", calls.size(), 36);
        for (run = 0; run < RUNS; run++) {
            begin();
            while (left > 0) step();
        }
        for (; run < RUNS + FULL_RUNS; run++) {
            begin();
            fill();
            askAll();
        }
        check.end();
    }

    private void begin() {
        lots = new Random(run);
        asks = new GrownAsks();
        plain = new PlainAsks();
        left = CALLS;
    }

    /** ROWS of few kinds, a TEST and FAULTS, so that RULES fire and LAWS break. */
    private void fill() throws Exception {
        int rows = 1 + lots.nextInt(8);
        int kinds = 1 + lots.nextInt(4);
        int[] values = {-100, 1, 5, -9};
        for (int i = 0; i < rows; i++) {
            call("row", values[lots.nextInt(kinds)], values[lots.nextInt(kinds)], values[lots.nextInt(kinds)]);
        }
        typeTest();
        call("grow", lots.nextInt(), 1 + lots.nextInt(9));
        call("set", 1, lots.nextInt(4) == 0 ? lots.nextInt(256) : 1 << lots.nextInt(8) | 1 << lots.nextInt(8));
        if (lots.nextInt(4) == 0) call("set", 0, lots.nextInt(256) | lots.nextInt(256));
    }

    private void askAll() throws Exception {
        for (int text = 0; text < 2; text++) {
            for (String name : new String[] {"fault", "acts", "meant", "which", "fired", "learn"}) call(name, text);
            for (int what = 0; what < 9; what++) call("tell", text, what / 3, what % 3);
            for (int what = 0; what < 2; what++) call("wrong", text, what);
            for (int act = 0; act < 10; act++) {
                call("means", text, act, lots.nextInt(8));
                call("has", text, act, lots.nextInt(8));
            }
        }
        for (int law = 0; law < 7; law++) {
            for (int text = 0; text < 2; text++) call("quarrels", text, law);
            for (int what = 0; what < 3; what++) call("cut", law, what);
            for (String name : new String[] {"led", "holds"}) call(name, law);
            call("seen", lots.nextInt(8), law);
        }
        for (int r = 1; r < 10; r++) call("next", lots.nextInt(), r);
        call("blind");
        call("digest");
    }

    private void step() throws Exception {
        int lot = lots.nextInt(12);
        if (lot == 0) typeTest();
        else if (lot == 1) addRow();
        else if (lot == 2) call("set", lots.nextInt(2), lots.nextInt(256));
        else if (lot == 3) call("set", 1, 1 << lots.nextInt(8));
        else if (lot == 4 && lots.nextInt(3) == 0) call("set", 0, 255);
        else anyCall();
    }

    private void typeTest() throws Exception {
        int text = lots.nextInt(4) == 0 ? 1 : 0;
        call("wipe", text);
        StringBuilder test = new StringBuilder();
        growTest(test, lots.nextInt(5));
        if (lots.nextInt(4) == 0) test.insert(0, "!!!!!!!!!!!!".substring(lots.nextInt(12)));
        if (lots.nextInt(8) == 0) {
            test.setCharAt(lots.nextInt(test.length()), "&|!?<=>abcn-059d \u00ff".charAt(lots.nextInt(18)));
        }
        for (int i = 0; i < test.length(); i++) call("type", text, test.charAt(i));
    }

    private void growTest(StringBuilder to, int depth) {
        int lot = depth == 0 ? 4 + lots.nextInt(3) : lots.nextInt(7);
        to.append("&|!?<=>".charAt(lot));
        if (lot < 4) growTest(to, depth - 1);
        if (lot < 2) growTest(to, depth - 1 - lots.nextInt(depth));
        if (lot > 3) to.append(term()).append(term());
    }

    private String term() {
        String[] terms = {"a", "b", "c", "a", "b", "n", "0", "1", "5", "9", "-0", "-1", "-9"};
        return terms[lots.nextInt(terms.length)];
    }

    private void addRow() throws Exception {
        if (lots.nextInt(10) == 0) {
            call("empty");
        }
        int kinds = 1 + lots.nextInt(4);
        int[] values = {-100, 0, 1, 5};
        call("row", values[lots.nextInt(kinds)], values[lots.nextInt(kinds)], values[lots.nextInt(kinds)]);
    }

    private void anyCall() throws Exception {
        int k = lots.nextInt(calls.size());
        String name = calls.get(k).getName();
        // what undoes much is called less often, that runs come to hold something
        boolean undoes = name.equals("wipe") || name.equals("empty") || name.equals("type");
        if (undoes && lots.nextInt(6) != 0) return;
        Class<?>[] types = calls.get(k).getParameterTypes();
        Object[] args = new Object[types.length];
        for (int i = 0; i < args.length; i++) {
            args[i] = types[i] == long.class ? (Object) longArg() : (Object) intArg();
        }
        if (name.equals("sheet") && lots.nextInt(3) > 0) {
            args[0] = lots.nextInt(4);
            args[1] = lots.nextInt(3) == 0 ? 3 : lots.nextInt(4);
            args[2] = lots.nextInt(49);
        }
        if (name.equals("grow") || name.equals("next")) args[0] = lots.nextInt(5) == 0 ? args[0] : lots.nextInt();
        call(k, args);
    }

    private long longArg() {
        return lots.nextInt(3) == 0 ? lots.nextInt(19) - 9 : LONGS[lots.nextInt(LONGS.length)];
    }

    private int intArg() {
        return lots.nextInt(4) == 0 ? EDGES[lots.nextInt(EDGES.length)] : lots.nextInt(4);
    }

    private void call(String name, Object... args) throws Exception {
        for (int i = 0; i < args.length; i++) {
            if (args[i] instanceof Character) args[i] = (int) (char) (Character) args[i];
        }
        for (int k = 0; k < calls.size(); k++) {
            if (calls.get(k).getName().equals(name)) call(k, args);
        }
    }

    private void call(int k, Object[] args) throws Exception {
        if (left-- <= 0) return;
        long got = ((Number) calls.get(k).invoke(asks, args)).longValue();
        long want = ((Number) plainCalls.get(k).invoke(plain, args)).longValue();
        check.due("run " + run + ", " + left + " calls left: " + calls.get(k).getName()
                + Arrays.toString(args), got, want);
        if (left % 64 == 0) {
            check.due("run " + run + ", " + left + " calls left: digest", asks.digest(), plain.digest());
        }
    }
}
