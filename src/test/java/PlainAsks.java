import java.util.ArrayList;
import java.util.Arrays;
import java.util.List;
import java.util.Set;
import java.util.TreeSet;

/**
 * The document word by word, as slow as it likes: TESTS stay texts, each LAW builds the texts and
 * tables it speaks of, SHEETS are the arrays that their FORM names. The class is held against it.
 */
final class PlainAsks {
    private static final int NONE = -1, BAD = -2, NOT = -3, FULL = -4, NOTHING = -100;

    private static final class Fault extends RuntimeException {
        private static final long serialVersionUID = 1L;
        final int place;

        Fault(int place) {
            this.place = place;
        }
    }

    private List<int[]> table = new ArrayList<>();
    private final String[] texts = {"", ""};
    private int rules = 255, faults = 0, latest = 0;
    private final Set<Integer> learnt = new TreeSet<>();
    private final Object[] sheets = new Object[4];

    // ---- the table

    private static boolean fits(long v) {
        return v == NOTHING || v >= -9 && v <= 9;
    }

    public int row(int a, int b, int c) {
        if (!fits(a) || !fits(b) || !fits(c)) return BAD;
        if (table.size() == 8) return FULL;
        table.add(new int[] {a, b, c});
        return table.size() - 1;
    }

    public int read(int s) {
        if (s < 0 || s > 3) return BAD;
        if (sheets[s] == null) return finding(1);
        int came = 0;
        while (came * 3 + 3 <= sizeOf(s) && table.size() < 8) {
            long a = item(s, came * 3), b = item(s, came * 3 + 1), c = item(s, came * 3 + 2);
            if (!fits(a) || !fits(b) || !fits(c)) break;
            table.add(new int[] {(int) a, (int) b, (int) c});
            came++;
        }
        return came;
    }

    public int at(int row, int column) {
        if (row < 0 || row >= table.size() || column < 0 || column > 2) return -1000;
        return table.get(row)[column];
    }

    public int put(int row, int column, int v) {
        if (row < 0 || row >= table.size() || column < 0 || column > 2 || !fits(v)) return -1000;
        int was = table.get(row)[column];
        table.get(row)[column] = v;
        return was;
    }

    public int empty() {
        int had = table.size();
        table.clear();
        return had;
    }

    // ---- tests

    private static boolean noText(int text) {
        return text != 0 && text != 1;
    }

    public int type(int text, int b) {
        if (noText(text) || b < 0 || b > 255) return BAD;
        if (texts[text].length() == 40) return FULL;
        texts[text] += (char) b;
        return texts[text].length();
    }

    public int wipe(int text) {
        if (noText(text)) return BAD;
        int had = texts[text].length();
        texts[text] = "";
        return had;
    }

    private static int endOfTerm(String s, int i) {
        if (i >= s.length()) throw new Fault(s.length());
        if ("abcn0123456789".indexOf(s.charAt(i)) >= 0) return i + 1;
        if (s.charAt(i) != '-') throw new Fault(i);
        if (i + 1 >= s.length()) throw new Fault(s.length());
        if ("0123456789".indexOf(s.charAt(i + 1)) < 0) throw new Fault(i + 1);
        return i + 2;
    }

    private static int endOfTest(String s, int i) {
        if (i >= s.length()) throw new Fault(s.length());
        switch (s.charAt(i)) {
            case '&': case '|': return endOfTest(s, endOfTest(s, i + 1));
            case '!': case '?': return endOfTest(s, i + 1);
            case '<': case '=': case '>': return endOfTerm(s, endOfTerm(s, i + 1));
            default: throw new Fault(i);
        }
    }

    private static int faultOf(String s) {
        try {
            int end = endOfTest(s, 0);
            return end < s.length() ? end : NONE;
        } catch (Fault f) {
            return f.place;
        }
    }

    private boolean isFaulty(int text) {
        return faultOf(texts[text]) != NONE;
    }

    public int fault(int text) {
        return noText(text) ? BAD : faultOf(texts[text]);
    }

    public int byteOf(int text, int i) {
        if (noText(text) || i < 0) return BAD;
        return i < texts[text].length() ? texts[text].charAt(i) : NONE;
    }

    /** The TESTS of a TEST, itself first: one for each of its ACTS. */
    private static List<String> parts(String p) {
        List<String> all = new ArrayList<>();
        for (int i = 0; i < p.length(); i++) {
            if ("&|!?<=>".indexOf(p.charAt(i)) >= 0) all.add(p.substring(i, endOfTest(p, i)));
        }
        return all;
    }

    public int acts(int text) {
        if (noText(text)) return BAD;
        return isFaulty(text) ? NOT : parts(texts[text]).size();
    }

    private static int term(String t, int[] row) {
        if (t.equals("n")) return NOTHING;
        if ("abc".contains(t)) return row["abc".indexOf(t)];
        return Integer.parseInt(t);
    }

    private static boolean isColumn(String t) {
        return "abc".contains(t);
    }

    private static boolean isTold(String t) {
        return !isColumn(t) && !t.equals("n");
    }

    private static int meaning(String p, int[] row) {
        char sign = p.charAt(0);
        if (sign == '!') {
            int v = meaning(p.substring(1), row);
            return v == 2 ? 2 : 1 - v;
        }
        if (sign == '?') return meaning(p.substring(1), row) == 2 ? 1 : 0;
        if (sign == '&' || sign == '|') {
            int v = meaning(p.substring(1, endOfTest(p, 1)), row);
            int w = meaning(p.substring(endOfTest(p, 1)), row);
            int strong = sign == '&' ? 0 : 1;
            if (v == strong || w == strong) return strong;
            return v == 2 || w == 2 ? 2 : 1 - strong;
        }
        int l = term(p.substring(1, endOfTerm(p, 1)), row);
        int r = term(p.substring(endOfTerm(p, 1)), row);
        if (l == NOTHING || r == NOTHING) return 2;
        return (sign == '<' ? l < r : sign == '=' ? l == r : l > r) ? 1 : 0;
    }

    public int means(int text, int act, int row) {
        if (noText(text) || act < 0 || row < 0 || row >= table.size()) return BAD;
        if (isFaulty(text)) return NOT;
        List<String> parts = parts(texts[text]);
        return act >= parts.size() ? BAD : meaning(parts.get(act), table.get(row));
    }

    private static int meantRows(String p, List<int[]> rows) {
        int bits = 0;
        for (int i = 0; i < rows.size(); i++) if (meaning(p, rows.get(i)) == 1) bits |= 1 << i;
        return bits;
    }

    public int meant(int text) {
        if (noText(text)) return BAD;
        return isFaulty(text) ? NOT : meantRows(texts[text], table);
    }

    // ---- the engine

    public int set(int what, int bits) {
        if (what < 0 || what > 1 || bits < 0 || bits > 255) return BAD;
        int were = what == 0 ? rules : faults;
        if (what == 0) rules = bits; else faults = bits;
        return were;
    }

    /** RULES on, FAULTS put in, and what FIRED: one way in which THE ENGINE is asked. */
    private static final class Ask {
        final int on, in;
        int fired = 0;

        Ask(int on, int in) {
            this.on = on;
            this.in = in;
        }

        boolean isDone(int rule) {
            if ((on & 1 << rule) == 0) return false;
            fired |= 1 << rule;
            return (in & 1 << rule) != 0;
        }
    }

    private Ask ask() {
        return new Ask(rules, faults);
    }

    private static int engine(String p, int[] row, Ask ask) {
        char sign = p.charAt(0);
        if (sign == '!') {
            int v = engine(p.substring(1), row, ask);
            if (v == 2) return ask.isDone(0) ? 1 : 2;
            return v == 1 ? 0 : 1;
        }
        if (sign == '?') {
            int v = engine(p.substring(1), row, ask);
            if (v != 2) return 0;
            return "<=>".indexOf(p.charAt(1)) >= 0 && ask.isDone(5) ? 0 : 1;
        }
        if (sign == '&' || sign == '|') {
            int v = engine(p.substring(1, endOfTest(p, 1)), row, ask);
            int w = engine(p.substring(endOfTest(p, 1)), row, ask);
            if (sign == '&') {
                if (v == 0 || w == 0) return 0;
                if (v == 1 && w == 1) return 1;
                return (v == 1 || w == 1) && ask.isDone(2) ? 1 : 2;
            }
            if (v == 1 || w == 1) return 1;
            if (v == 0 && w == 0) return 0;
            return (v == 0 || w == 0) && ask.isDone(3) ? 0 : 2;
        }
        return compare(sign, p.substring(1, endOfTerm(p, 1)), p.substring(endOfTerm(p, 1)), row, ask);
    }

    private static int compare(char sign, String left, String right, int[] row, Ask ask) {
        int l = term(left, row), r = term(right, row);
        if (sign == '=' && l == NOTHING && r == NOTHING) return ask.isDone(1) ? 1 : 2;
        if (l == NOTHING || r == NOTHING) return 2;
        if (sign == '<' && l == r && isColumn(right)) return ask.isDone(4) ? 1 : 0;
        if (sign == '>' && isColumn(left) && isTold(right) && r > l) return ask.isDone(6) ? 2 : 0;
        return (sign == '<' ? l < r : sign == '=' ? l == r : l > r) ? 1 : 0;
    }

    public int has(int text, int act, int row) {
        if (noText(text) || act < 0 || row < 0 || row >= table.size()) return BAD;
        if (isFaulty(text)) return NOT;
        List<String> parts = parts(texts[text]);
        return act >= parts.size() ? BAD : engine(parts.get(act), table.get(row), ask());
    }

    private static int whichRows(String p, List<int[]> rows, Ask ask) {
        int yes = 0;
        for (int i = 0; i < rows.size(); i++) if (engine(p, rows.get(i), ask) == 1) yes |= 1 << i;
        int answer = yes;
        for (int i = 0; i < rows.size(); i++) {
            for (int j = i + 1; j < rows.size(); j++) {
                boolean bothYes = (yes & 1 << i) != 0 && (yes & 1 << j) != 0;
                if (bothYes && Arrays.equals(rows.get(i), rows.get(j)) && ask.isDone(7)) {
                    answer &= ~(1 << j);
                }
            }
        }
        return answer;
    }

    public int which(int text) {
        if (noText(text)) return BAD;
        return isFaulty(text) ? NOT : whichRows(texts[text], table, ask());
    }

    private int firedBy(String p) {
        Ask ask = ask();
        whichRows(p, table, ask);
        return ask.fired;
    }

    public int fired(int text) {
        if (noText(text)) return BAD;
        return isFaulty(text) ? NOT : firedBy(texts[text]);
    }

    private static List<int[]> chosen(String p, List<int[]> rows, Ask ask) {
        int bits = whichRows(p, rows, ask);
        List<int[]> those = new ArrayList<>();
        for (int i = 0; i < rows.size(); i++) if ((bits & 1 << i) != 0) those.add(rows.get(i));
        return those;
    }

    private static int total(List<int[]> rows, int column) {
        int sum = 0;
        for (int[] row : rows) if (row[column] != NOTHING) sum += row[column];
        return sum;
    }

    private static int kinds(List<int[]> rows, int column) {
        Set<Integer> unlike = new TreeSet<>();
        for (int[] row : rows) unlike.add(row[column]);
        return unlike.size();
    }

    public int tell(int text, int what, int column) {
        if (noText(text) || what < 0 || what > 2 || column < 0 || column > 2) return -1000;
        if (isFaulty(text)) return -1001;
        List<int[]> those = chosen(texts[text], table, ask());
        if (what == 0) return those.size();
        return what == 1 ? total(those, column) : kinds(those, column);
    }

    // ---- laws, quarrels

    private static boolean quarrel(int law, String p, List<int[]> rows, Ask ask) {
        if (rows.isEmpty()) return false;
        switch (law) {
            case 0: return chosen(p, rows, ask).size() + chosen("!" + p, rows, ask).size()
                        + chosen("?" + p, rows, ask).size() != rows.size();
            case 1: {
                int alone = 0;
                for (int i = 0; i < rows.size(); i++) {
                    if (whichRows(p, rows.subList(i, i + 1), ask) == 1) alone |= 1 << i;
                }
                return whichRows(p, rows, ask) != alone;
            }
            case 2: return chosen(p, rows.subList(0, rows.size() - 1), ask).size()
                        > chosen(p, rows, ask).size();
            case 3: return whichRows("&" + p + p, rows, ask) != whichRows(p, rows, ask);
            case 4: return whichRows("!!" + p, rows, ask) != whichRows(p, rows, ask);
            case 5:
                for (int c = 0; c < 3; c++) {
                    int sum = total(chosen(p, rows, ask), c) + total(chosen("!" + p, rows, ask), c)
                            + total(chosen("?" + p, rows, ask), c);
                    if (sum != total(rows, c)) return true;
                }
                return false;
            default:
                for (int c = 0; c < 3; c++) {
                    int kinds = kinds(chosen(p, rows, ask), c);
                    if (kinds > kinds(chosen("|" + p + "?" + p, rows, ask), c)) return true;
                    if (kinds < kinds(chosen("&" + p + "?!" + p, rows, ask), c)) return true;
                }
                return false;
        }
    }

    private static boolean noLaw(int law) {
        return law < 0 || law > 6;
    }

    public int quarrels(int text, int law) {
        if (noText(text) || noLaw(law)) return BAD;
        if (isFaulty(text)) return NOT;
        return quarrel(law, texts[text], table, ask()) ? 1 : 0;
    }

    public int cut(int law, int what) {
        if (noLaw(law) || what < 0 || what > 2) return BAD;
        if (isFaulty(0) || !quarrel(law, texts[0], table, ask())) return NOT;
        List<Integer> stay = new ArrayList<>();
        for (int i = 0; i < table.size(); i++) stay.add(i);
        int act = 0;
        List<String> parts = parts(texts[0]);
        boolean more = true;
        while (more) {
            more = false;
            for (int k = 0; k < stay.size() && !more; k++) {
                List<Integer> fewer = new ArrayList<>(stay);
                fewer.remove(k);
                if (quarrel(law, parts.get(act), only(fewer), ask())) {
                    stay = fewer;
                    more = true;
                }
            }
            int inside = parts(parts.get(act)).size();
            for (int k = 1; k < inside && !more; k++) {
                if (quarrel(law, parts.get(act + k), only(stay), ask())) {
                    act += k;
                    more = true;
                }
            }
        }
        int bits = 0;
        for (int i : stay) bits |= 1 << i;
        return what == 0 ? bits : what == 1 ? parts(parts.get(act)).size() : act;
    }

    private List<int[]> only(List<Integer> numbers) {
        List<int[]> rows = new ArrayList<>();
        for (int i : numbers) rows.add(table.get(i));
        return rows;
    }

    public int led(int law) {
        if (noLaw(law)) return BAD;
        if (isFaulty(0)) return NOT;
        int best = NONE;
        for (int off = 0; off < 256; off++) {
            boolean fewer = best == NONE || Integer.bitCount(off) < Integer.bitCount(best);
            if ((off & ~rules) == 0 && fewer
                    && !quarrel(law, texts[0], table, new Ask(rules & ~off, faults))) {
                best = off;
            }
        }
        return best;
    }

    public int wrong(int text, int what) {
        if (noText(text) || what < 0 || what > 1) return BAD;
        if (isFaulty(text)) return NOT;
        List<String> parts = parts(texts[text]);
        for (int act = 0; act < parts.size(); act++) {
            for (int row = 0; row < table.size(); row++) {
                if (isFirstWrong(parts(parts.get(act)), table.get(row))) {
                    return what == 0 ? act : row;
                }
            }
        }
        return NONE;
    }

    private boolean isFirstWrong(List<String> parts, int[] row) {
        for (int k = 0; k < parts.size(); k++) {
            boolean asMeant = engine(parts.get(k), row, ask()) == meaning(parts.get(k), row);
            if (asMeant == (k == 0)) return false;
        }
        return true;
    }

    // ---- growing

    private static final class Lots {
        int seed;

        int of(int k) {
            seed = seed * 1103515245 + 12345;
            return (seed >> 16 & 0xffff) % k;
        }

        String test(int r) {
            char sign = r > 1 ? "&|!?<=>".charAt(of(7)) : "<=>".charAt(of(3));
            if (r == 2 && sign == '&') sign = '!';
            if (r == 2 && sign == '|') sign = '?';
            if (sign == '&' || sign == '|') {
                int first = 1 + of(r - 2);
                String one = test(first);
                return sign + one + test(r - 1 - first);
            }
            if (sign == '!' || sign == '?') return sign + test(r - 1);
            String left = term();
            return sign + left + term();
        }

        String term() {
            int lot = of(6);
            if (lot < 3) return "abc".substring(lot, lot + 1);
            if (lot == 3) return "n";
            return (lot == 5 ? "-" : "") + of(10);
        }
    }

    private static String grown(int seed, int r) {
        Lots lots = new Lots();
        lots.seed = seed;
        return lots.test(r);
    }

    public int grow(int seed, int r) {
        if (r < 1 || r > 9) return BAD;
        texts[1] = grown(seed, r);
        return texts[1].length();
    }

    private static Set<Integer> pairsOf(int fired) {
        Set<Integer> pairs = new TreeSet<>();
        for (int a = 0; a < 8; a++) {
            for (int b = a + 1; b < 8; b++) {
                if ((fired & 1 << a) != 0 && (fired & 1 << b) != 0) pairs.add(a * 8 + b);
            }
        }
        return pairs;
    }

    public int learn(int text) {
        if (noText(text)) return BAD;
        if (isFaulty(text)) return NOT;
        int before = learnt.size();
        learnt.addAll(pairsOf(firedBy(texts[text])));
        return learnt.size() - before;
    }

    public int learnt(int a, int b) {
        if (a < 0 || a > 7 || b < 0 || b > 7 || a == b) return BAD;
        return learnt.contains(Math.min(a, b) * 8 + Math.max(a, b)) ? 1 : 0;
    }

    public int next(int seed, int r) {
        if (r < 1 || r > 9) return BAD;
        for (int k = 0; k < 30; k++) {
            if (!learnt.containsAll(pairsOf(firedBy(grown(seed + k, r))))) return k;
        }
        return NONE;
    }

    // ---- what is seen

    private static List<List<int[]>> smallTables() {
        int[] as = {NOTHING, 0, 1};
        List<List<int[]>> all = new ArrayList<>();
        all.add(List.of());
        for (int b : new int[] {NOTHING, 0}) {
            for (int a : as) {
                all.add(List.of(new int[] {a, b, 0}));
                for (int d : as) all.add(List.of(new int[] {a, b, 0}, new int[] {d, b, 0}));
            }
        }
        return all;
    }

    private boolean quarrelsOnSmall(int law, int in) {
        for (List<int[]> small : smallTables()) {
            if (quarrel(law, texts[0], small, new Ask(255, in))) return true;
        }
        return false;
    }

    public int holds(int law) {
        if (noLaw(law)) return BAD;
        if (isFaulty(0)) return NOT;
        return quarrelsOnSmall(law, 0) ? 0 : 1;
    }

    public int seen(int fault, int law) {
        if (fault < 0 || fault > 7 || noLaw(law)) return BAD;
        if (isFaulty(0)) return NOT;
        return quarrelsOnSmall(law, 1 << fault) ? 1 : 0;
    }

    public int blind() {
        if (isFaulty(0)) return NOT;
        int bits = 0;
        for (int fault = 0; fault < 8; fault++) {
            boolean other = false;
            for (List<int[]> small : smallTables()) {
                int got = whichRows(texts[0], small, new Ask(255, 1 << fault));
                if (got != meantRows(texts[0], small)) other = true;
            }
            boolean seen = false;
            for (int law = 0; law < 7; law++) {
                if (!quarrelsOnSmall(law, 0) && quarrelsOnSmall(law, 1 << fault)) seen = true;
            }
            if (other && !seen) bits |= 1 << fault;
        }
        return bits;
    }

    // ---- sheets

    private int finding(int number) {
        latest = number;
        return -10 - number;
    }

    private static int formOf(Object sheet) {
        if (sheet instanceof byte[]) return 0;
        if (sheet instanceof short[]) return 1;
        return sheet instanceof int[] ? 2 : 3;
    }

    private int sizeOf(int s) {
        return java.lang.reflect.Array.getLength(sheets[s]);
    }

    private long item(int s, int i) {
        return java.lang.reflect.Array.getLong(sheets[s], i);
    }

    private void change(int s, int i, long v) {
        Object sheet = sheets[s];
        if (sheet instanceof byte[]) ((byte[]) sheet)[i] = (byte) v;
        else if (sheet instanceof short[]) ((short[]) sheet)[i] = (short) v;
        else if (sheet instanceof int[]) ((int[]) sheet)[i] = (int) v;
        else ((long[]) sheet)[i] = v;
    }

    private static boolean noSheet(int s) {
        return s < 0 || s > 3;
    }

    public int sheet(int s, int form, int n) {
        if (noSheet(s) || form < 0 || form > 3 || n > 48) return BAD;
        if (n < 0) return finding(5);
        sheets[s] = form == 0 ? new byte[n] : form == 1 ? new short[n]
                : form == 2 ? new int[n] : (Object) new long[n];
        return n;
    }

    public int lose(int s) {
        if (noSheet(s)) return BAD;
        if (sheets[s] == null) return finding(1);
        int had = sizeOf(s);
        sheets[s] = null;
        return had;
    }

    private int refusal(int s, int form, int i) {
        if (noSheet(s) || form < 0 || form > 3) return BAD;
        if (sheets[s] == null) return finding(1);
        if (formOf(sheets[s]) != form) return finding(3);
        return i < 0 || i >= sizeOf(s) ? finding(2) : 0;
    }

    public int lay(int s, int form, int i, long v) {
        int refusal = refusal(s, form, i);
        if (refusal != 0) return refusal;
        change(s, i, v);
        return 1;
    }

    public long get(int s, int form, int i) {
        return refusal(s, form, i) != 0 ? Long.MIN_VALUE : item(s, i);
    }

    public int copy(int s, int i, int t, int j, int n) {
        if (noSheet(s) || noSheet(t)) return BAD;
        if (sheets[s] == null || sheets[t] == null) return finding(1);
        if (formOf(sheets[s]) != formOf(sheets[t])) return finding(4);
        try {
            System.arraycopy(sheets[s], i, sheets[t], j, n);
        } catch (IndexOutOfBoundsException e) {
            return finding(2);
        }
        return 1;
    }

    public int write(int s) {
        if (noSheet(s)) return BAD;
        if (sheets[s] == null) return finding(1);
        int k = 0;
        for (int[] row : table) {
            for (int v : row) if (k < sizeOf(s)) change(s, k++, v);
        }
        return k;
    }

    public int count(int what) {
        int nothings = 0;
        for (int[] row : table) for (int v : row) if (v == NOTHING) nothings++;
        int[] counts = {table.size(), texts[0].length(), texts[1].length(), rules, faults,
            learnt.size(), nothings, BAD, latest};
        return what < 0 || what > 8 ? BAD : counts[what];
    }

    public long digest() {
        List<Long> told = new ArrayList<>();
        for (int what = 0; what <= 6; what++) told.add((long) count(what));
        for (int[] row : table) for (int v : row) told.add((long) v);
        for (int text = 0; text < 2; text++) {
            told.add((long) fault(text));
            if (isFaulty(text)) continue;
            told.add((long) acts(text));
            told.add((long) meant(text));
            told.add((long) which(text));
            told.add((long) fired(text));
            for (int law = 0; law < 7; law++) told.add((long) quarrels(text, law));
        }
        long h = 17;
        for (long v : told) h = 31 * h + v;
        return h;
    }
}
