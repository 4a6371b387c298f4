/**
 * Asks grown against a store: a table with nothings in it, tests told as texts, an engine whose
 * rules can each be wrong in their own way, and laws by which it must not quarrel with itself.
 *
 * All room is taken when an object is made: no later call makes an object or an array.
 */
public final class GrownAsks {
    public static final int NONE = -1, BAD = -2, NOT = -3, FULL = -4;

    private static final int NOTHING = -100, LEAST = -9, MOST = 9;
    private static final int ROWS = 8, COLUMNS = 3, BYTES = 40;
    private static final int RULES = 8, LAWS = 7, ALL_BITS = 255, ALL_LAWS = 127;
    private static final int SHEETS = 4, FORMS = 4, ITEMS = 48;
    private static final int MOST_ROOM = 9, SEEDS_TRIED = 30;

    /** Refusals of the calls of which -2 and -3 may be ordinary answers. */
    private static final int NO_CELL = -1000, NO_TEST = -1001;

    /** The least long, as bits: the library's own name for it is not among what may be used. */
    private static final long NO_ITEM = 1L << 63;

    private static final int NULL = 1, INDEX = 2, CAST = 3, STORE = 4, SIZE = 5;
    private static final int LOST = -1;

    /** A TERM is one int: what is told (or NOTHING) is itself, COLUMNS come from here on. */
    private static final int COLUMN_A = 20, NO_TERM = 1000;

    /** In the order in which a LOT tells them. */
    private static final int[] SIGNS = {'&', '|', '!', '?', '<', '=', '>'};

    private final Table table;
    private final Text text0, text1, spare;
    private final Engine engine, meaning;
    private final Laws laws;
    private final Cutter cutter;
    private final Grower grower;
    private final Pairs pairs;
    private final Smalls smalls;
    private final Sheet[] sheets;
    private int rules, faults, finding;

    public GrownAsks() {
        table = new Table(ROWS);
        text0 = new Text();
        text1 = new Text();
        spare = new Text();
        engine = new Engine(table);
        meaning = new Engine(table);
        laws = new Laws(engine, table);
        cutter = new Cutter(laws);
        grower = new Grower();
        pairs = new Pairs();
        smalls = new Smalls();
        sheets = new Sheet[SHEETS];
        for (int s = 0; s < SHEETS; s++) {
            sheets[s] = new Sheet();
        }
        rules = ALL_BITS;
        faults = 0;
        finding = 0;
    }

    // ---- the table

    public int row(int a, int b, int c) {
        if (!mayStand(a) || !mayStand(b) || !mayStand(c)) {
            return BAD;
        }
        return table.append(a, b, c) ? table.rows - 1 : FULL;
    }

    public int read(int s) {
        Sheet sheet = sheetOf(s);
        if (sheet == null) {
            return BAD;
        }
        if (sheet.isLost()) {
            return found(NULL);
        }
        int came = 0;
        for (int i = 0; i + COLUMNS <= sheet.size; i += COLUMNS) {
            if (!appendLong(sheet.item(i), sheet.item(i + 1), sheet.item(i + 2))) {
                break;
            }
            came++;
        }
        return came;
    }

    public int at(int row, int column) {
        return table.cell(row, column);
    }

    public int put(int row, int column, int v) {
        if (!mayStand(v)) {
            return NO_CELL;
        }
        int was = table.cell(row, column);
        table.change(row, column, v);
        return was;
    }

    public int empty() {
        int had = table.rows;
        table.clear();
        return had;
    }

    // ---- tests

    public int type(int text, int b) {
        Text t = textOf(text);
        if (t == null || b < 0 || b > 255) {
            return BAD;
        }
        return t.append(b) ? t.length : FULL;
    }

    public int wipe(int text) {
        Text t = textOf(text);
        if (t == null) {
            return BAD;
        }
        int had = t.length;
        t.clear();
        return had;
    }

    public int fault(int text) {
        Text t = textOf(text);
        return t == null ? BAD : t.faultPlace();
    }

    public int byteOf(int text, int i) {
        Text t = textOf(text);
        return t == null || i < 0 ? BAD : t.byteAt(i);
    }

    public int acts(int text) {
        Text t = textOf(text);
        if (t == null) {
            return BAD;
        }
        return t.isWhole() ? t.actCount : NOT;
    }

    public int means(int text, int act, int row) {
        return judgedBy(meaning, 0, text, act, row);
    }

    public int meant(int text) {
        Text t = textOf(text);
        if (t == null) {
            return BAD;
        }
        return t.isWhole() ? meantRows(t) : NOT;
    }

    // ---- the engine

    public int set(int what, int bits) {
        if (what < 0 || what > 1 || bits < 0 || bits > ALL_BITS) {
            return BAD;
        }
        int were = what == 0 ? rules : faults;
        if (what == 0) {
            rules = bits;
        } else {
            faults = bits;
        }
        return were;
    }

    public int has(int text, int act, int row) {
        return judgedBy(engine, rules & faults, text, act, row);
    }

    public int which(int text) {
        Text t = textOf(text);
        if (t == null) {
            return BAD;
        }
        return t.isWhole() ? answeredRows(t) : NOT;
    }

    public int fired(int text) {
        Text t = textOf(text);
        if (t == null) {
            return BAD;
        }
        return t.isWhole() ? firedRules(t) : NOT;
    }

    public int tell(int text, int what, int column) {
        Text t = textOf(text);
        if (t == null || what < 0 || what > 2 || column < 0 || column >= COLUMNS) {
            return NO_CELL;
        }
        if (!t.isWhole()) {
            return NO_TEST;
        }
        int some = answeredRows(t);
        if (what == 0) {
            return Integer.bitCount(some);
        }
        return what == 1 ? table.total(some, column) : table.kinds(some, column);
    }

    // ---- laws, quarrels

    public int quarrels(int text, int law) {
        Text t = textOf(text);
        if (t == null || !isLaw(law)) {
            return BAD;
        }
        if (!t.isWhole()) {
            return NOT;
        }
        return isQuarrel(t, law, rules & faults) ? 1 : 0;
    }

    public int cut(int law, int what) {
        if (!isLaw(law) || what < 0 || what > 2) {
            return BAD;
        }
        if (!text0.isWhole() || !isQuarrel(text0, law, rules & faults)) {
            return NOT;
        }
        cutter.cutDown(law, text0, table.all());
        if (what == 0) {
            return cutter.left;
        }
        return what == 1 ? text0.sizeAt(cutter.act) : cutter.act;
    }

    public int led(int law) {
        if (!isLaw(law)) {
            return BAD;
        }
        return text0.isWhole() ? fewestRules(law) : NOT;
    }

    public int wrong(int text, int what) {
        Text t = textOf(text);
        if (t == null || what < 0 || what > 1) {
            return BAD;
        }
        if (!t.isWhole()) {
            return NOT;
        }
        engine.work(t, rules & faults);
        meaning.work(t, 0);
        for (int act = 0; act < t.actCount; act++) {
            int strays = ownStrays(t, act);
            if (strays != 0) {
                return what == 0 ? act : Integer.numberOfTrailingZeros(strays);
            }
        }
        return NONE;
    }

    // ---- growing

    public int grow(int seed, int r) {
        if (!isRoom(r)) {
            return BAD;
        }
        grower.growInto(text1, seed, r);
        return text1.length;
    }

    public int learn(int text) {
        Text t = textOf(text);
        if (t == null) {
            return BAD;
        }
        return t.isWhole() ? pairs.keep(firedRules(t)) : NOT;
    }

    public int learnt(int a, int b) {
        if (!isRule(a) || !isRule(b) || a == b) {
            return BAD;
        }
        return pairs.isKept(a, b) ? 1 : 0;
    }

    public int next(int seed, int r) {
        if (!isRoom(r)) {
            return BAD;
        }
        for (int further = 0; further < SEEDS_TRIED; further++) {
            grower.growInto(spare, seed + further, r);
            if (pairs.hasNew(firedRules(spare))) {
                return further;
            }
        }
        return NONE;
    }

    // ---- what is seen

    public int holds(int law) {
        if (!isLaw(law)) {
            return BAD;
        }
        if (!text0.isWhole()) {
            return NOT;
        }
        return smalls.quarrelsOf(text0, 0, 1 << law) == 0 ? 1 : 0;
    }

    public int seen(int fault, int law) {
        if (!isRule(fault) || !isLaw(law)) {
            return BAD;
        }
        if (!text0.isWhole()) {
            return NOT;
        }
        return smalls.quarrelsOf(text0, 1 << fault, 1 << law) != 0 ? 1 : 0;
    }

    public int blind() {
        return text0.isWhole() ? smalls.unseenFaults(text0) : NOT;
    }

    // ---- sheets

    public int sheet(int s, int form, int n) {
        Sheet sheet = sheetOf(s);
        if (sheet == null || !isForm(form) || n > ITEMS) {
            return BAD;
        }
        if (n < 0) {
            return found(SIZE);
        }
        sheet.renew(form, n);
        return n;
    }

    public int lose(int s) {
        Sheet sheet = sheetOf(s);
        if (sheet == null) {
            return BAD;
        }
        if (sheet.isLost()) {
            return found(NULL);
        }
        int had = sheet.size;
        sheet.renew(LOST, 0);
        return had;
    }

    public int lay(int s, int form, int i, long v) {
        Sheet sheet = sheetOf(s);
        if (sheet == null || !isForm(form)) {
            return BAD;
        }
        int against = itemFinding(sheet, form, i);
        if (against != 0) {
            return found(against);
        }
        sheet.change(i, v);
        return 1;
    }

    public long get(int s, int form, int i) {
        Sheet sheet = sheetOf(s);
        if (sheet == null || !isForm(form)) {
            return NO_ITEM;
        }
        int against = itemFinding(sheet, form, i);
        if (against != 0) {
            found(against);
            return NO_ITEM;
        }
        return sheet.item(i);
    }

    public int copy(int s, int i, int t, int j, int n) {
        Sheet from = sheetOf(s);
        Sheet to = sheetOf(t);
        if (from == null || to == null) {
            return BAD;
        }
        if (from.isLost() || to.isLost()) {
            return found(NULL);
        }
        if (from.form != to.form) {
            return found(STORE);
        }
        if (!from.hasSpan(i, n) || !to.hasSpan(j, n)) {
            return found(INDEX);
        }
        to.take(j, from, i, n);
        return 1;
    }

    public int write(int s) {
        Sheet sheet = sheetOf(s);
        if (sheet == null) {
            return BAD;
        }
        if (sheet.isLost()) {
            return found(NULL);
        }
        int many = Math.min(table.rows * COLUMNS, sheet.size);
        for (int i = 0; i < many; i++) {
            sheet.change(i, table.cell(i / COLUMNS, i % COLUMNS));
        }
        return many;
    }

    public int count(int what) {
        switch (what) {
            case 0:
                return table.rows;
            case 1:
                return text0.length;
            case 2:
                return text1.length;
            case 3:
                return rules;
            case 4:
                return faults;
            case 5:
                return pairs.many;
            case 6:
                return table.nothings();
            case 8:
                return finding;
            default:
                return BAD;
        }
    }

    public long digest() {
        long h = 17;
        for (int what = 0; what <= 6; what++) {
            h = 31 * h + count(what);
        }
        for (int row = 0; row < table.rows; row++) {
            for (int column = 0; column < COLUMNS; column++) {
                h = 31 * h + table.cell(row, column);
            }
        }
        return withText(withText(h, text0), text1);
    }

    // ---- helpers

    private long withText(long before, Text t) {
        long h = 31 * before + t.faultPlace();
        if (!t.isWhole()) {
            return h;
        }
        h = 31 * h + t.actCount;
        h = 31 * h + meantRows(t);
        h = 31 * h + answeredRows(t);
        h = 31 * h + (engine.firing & rules);
        for (int law = 0; law < LAWS; law++) {
            h = 31 * h + (laws.isBroken(law, t, 0, table.all()) ? 1 : 0);
        }
        return h;
    }

    private Text textOf(int text) {
        if (text == 0) {
            return text0;
        }
        return text == 1 ? text1 : null;
    }

    private Sheet sheetOf(int s) {
        return s >= 0 && s < SHEETS ? sheets[s] : null;
    }

    private int found(int number) {
        finding = number;
        return -10 - number;
    }

    /** The FINDING that stands against an item, in the order of refusals; 0: none. */
    private static int itemFinding(Sheet sheet, int form, int i) {
        if (sheet.isLost()) {
            return NULL;
        }
        if (sheet.form != form) {
            return CAST;
        }
        return sheet.hasItem(i) ? 0 : INDEX;
    }

    /** Whether a ROW came; numbers beyond an int must not be cut off before they are looked at. */
    private boolean appendLong(long a, long b, long c) {
        return mayStand(a) && mayStand(b) && mayStand(c)
                && table.append((int) a, (int) b, (int) c);
    }

    private static boolean mayStand(long v) {
        return v == NOTHING || (v >= LEAST && v <= MOST);
    }

    private static boolean isLaw(int law) {
        return law >= 0 && law < LAWS;
    }

    private static boolean isRule(int rule) {
        return rule >= 0 && rule < RULES;
    }

    private static boolean isForm(int form) {
        return form >= 0 && form < FORMS;
    }

    private static boolean isRoom(int r) {
        return r >= 1 && r <= MOST_ROOM;
    }

    private static boolean isColumn(int term) {
        return term >= COLUMN_A && term < COLUMN_A + COLUMNS;
    }

    private static boolean isTold(int term) {
        return term >= LEAST && term <= MOST;
    }

    /** An ACT beyond those that there are is refused behind NOT, all else that is BAD ahead. */
    private int judgedBy(Engine judge, int done, int text, int act, int row) {
        Text t = textOf(text);
        if (t == null || act < 0 || row < 0 || row >= table.rows) {
            return BAD;
        }
        if (!t.isWhole()) {
            return NOT;
        }
        if (act >= t.actCount) {
            return BAD;
        }
        judge.work(t, done);
        int verdict = judge.verdictAt(act);
        if ((yesOf(verdict) >> row & 1) != 0) {
            return 1;
        }
        return (nothingOf(verdict) >> row & 1) != 0 ? 2 : 0;
    }

    private int meantRows(Text t) {
        meaning.work(t, 0);
        return yesOf(meaning.verdictAt(0));
    }

    private int answeredRows(Text t) {
        engine.work(t, rules & faults);
        return engine.answer(engine.verdictAt(0), table.all());
    }

    private int firedRules(Text t) {
        answeredRows(t);
        return engine.firing & rules;
    }

    private boolean isQuarrel(Text t, int law, int done) {
        engine.work(t, done);
        return laws.isBroken(law, t, 0, table.all());
    }

    /** Turning off a RULE whose FAULT is not put in changes no answer, so the fewest have none. */
    private int fewestRules(int law) {
        int done = rules & faults;
        for (int many = 0; many <= RULES; many++) {
            for (int off = 0; off <= ALL_BITS; off++) {
                if (Integer.bitCount(off) == many && (off & ~done) == 0
                        && !isQuarrel(text0, law, done & ~off)) {
                    return off;
                }
            }
        }
        return NONE;
    }

    private int straysAt(int act) {
        int had = engine.verdictAt(act);
        int meant = meaning.verdictAt(act);
        int unlike = had ^ meant;
        return yesOf(unlike) | nothingOf(unlike);
    }

    /** ROWS in which an ACT is not as meant, while all ACTS in it are. */
    private int ownStrays(Text t, int act) {
        int strays = straysAt(act);
        int end = act + t.sizeAt(act);
        for (int inner = act + 1; inner < end; inner++) {
            strays &= ~straysAt(inner);
        }
        return strays;
    }

    /** What a TEST is in all ROWS at once: yes as the lower bits, nothing as the upper ones. */
    private static int verdict(int yes, int nothing) {
        return yes | (nothing << 16);
    }

    private static int yesOf(int verdict) {
        return verdict & 0xffff;
    }

    private static int nothingOf(int verdict) {
        return verdict >>> 16;
    }

    /** ROWS of three COLUMNS, and which of them are the same. */
    private static final class Table {
        private final int most;
        private final int[] cells;
        private final int[] sameEarlier;
        int rows;

        Table(int most) {
            this.most = Math.max(most, 0);
            cells = new int[this.most * COLUMNS];
            sameEarlier = new int[this.most];
            rows = 0;
        }

        boolean append(int a, int b, int c) {
            if (rows < 0 || rows >= most) {
                return false;
            }
            int first = rows * COLUMNS;
            cells[first] = a;
            cells[first + 1] = b;
            cells[first + 2] = c;
            rows++;
            findSame(rows - 1);
            return true;
        }

        int cell(int row, int column) {
            if (row < 0 || row >= rows || column < 0 || column >= COLUMNS) {
                return NO_CELL;
            }
            return cells[row * COLUMNS + column];
        }

        void change(int row, int column, int v) {
            if (cell(row, column) != NO_CELL) {
                cells[row * COLUMNS + column] = v;
                findSame(row);
            }
        }

        void clear() {
            rows = 0;
        }

        int all() {
            return (1 << rows) - 1;
        }

        int valueOf(int term, int row) {
            int i = row * COLUMNS + (term - COLUMN_A);
            return term < COLUMN_A || i < 0 || i >= cells.length ? term : cells[i];
        }

        int nothings() {
            int many = 0;
            for (int row = 0; row < rows; row++) {
                for (int column = 0; column < COLUMNS; column++) {
                    many += cell(row, column) == NOTHING ? 1 : 0;
                }
            }
            return many;
        }

        /** Kept at each change, as one ask looks at it far more often than THE TABLE changes. */
        private void findSame(int from) {
            for (int row = Math.max(from, 0); row < rows && row < most; row++) {
                int same = 0;
                for (int before = 0; before < row; before++) {
                    same |= isSame(before, row) ? 1 << before : 0;
                }
                sameEarlier[row] = same;
            }
        }

        private boolean isSame(int one, int other) {
            for (int column = 0; column < COLUMNS; column++) {
                if (cell(one, column) != cell(other, column)) {
                    return false;
                }
            }
            return true;
        }

        /** Those of some ROWS that are the same as an earlier one of them. */
        int repeated(int some) {
            int later = 0;
            for (int row = 0; row < rows && row < most && some >> row != 0; row++) {
                if ((some >> row & 1) != 0 && (sameEarlier[row] & some) != 0) {
                    later |= 1 << row;
                }
            }
            return later;
        }

        int total(int some, int column) {
            int sum = 0;
            for (int row = 0; row < rows && some >> row != 0; row++) {
                int v = cell(row, column);
                if ((some >> row & 1) != 0 && isTold(v)) {
                    sum += v;
                }
            }
            return sum;
        }

        int kinds(int some, int column) {
            int unlike = 0;
            for (int row = 0; row < rows && some >> row != 0; row++) {
                if ((some >> row & 1) != 0) {
                    int v = cell(row, column);
                    unlike |= 1 << (v == NOTHING ? 0 : v - LEAST + 1);
                }
            }
            return Integer.bitCount(unlike);
        }
    }

    /**
     * A TEST as bytes, read byte by byte as they come: what is still open tells whether it goes on.
     * ACT k is ahead of all that is in it, which is the sizes[k] ACTS from k on.
     */
    private static final class Text {
        private final int[] bytes = new int[BYTES];
        private final int[] signs = new int[BYTES];
        private final int[] sizes = new int[BYTES];
        private final int[] lefts = new int[BYTES];
        private final int[] rights = new int[BYTES];
        int length;
        int actCount;
        private int openTests;
        private int openTerms;
        private boolean minus;
        private int stuck;

        Text() {
            clear();
        }

        void clear() {
            length = 0;
            actCount = 0;
            openTests = 1;
            openTerms = 0;
            minus = false;
            stuck = NONE;
        }

        boolean append(int b) {
            if (length < 0 || length >= BYTES) {
                return false;
            }
            bytes[length] = b;
            length++;
            if (stuck != NONE) {
                return true;
            }
            boolean goesOn = openTerms > 0 ? readTerm(b) : readSign(b);
            if (!goesOn) {
                stuck = length - 1;
            } else if (isWhole()) {
                measure();
            }
            return true;
        }

        int byteAt(int i) {
            return i >= 0 && i < length && i < BYTES ? bytes[i] : NONE;
        }

        boolean isWhole() {
            return stuck == NONE && openTests == 0 && openTerms == 0;
        }

        int faultPlace() {
            if (stuck != NONE) {
                return stuck;
            }
            return isWhole() ? NONE : length;
        }

        private boolean readSign(int b) {
            if (openTests < 1 || actCount < 0 || actCount >= BYTES) {
                return false;
            }
            switch (b) {
                case '&':
                case '|':
                    openTests++;
                    break;
                case '!':
                case '?':
                    break;
                case '<':
                case '=':
                case '>':
                    openTests--;
                    openTerms = 2;
                    break;
                default:
                    return false;
            }
            signs[actCount] = b;
            actCount++;
            return true;
        }

        private boolean readTerm(int b) {
            if (b == '-' && !minus) {
                minus = true;
                return true;
            }
            int term = termOf(b);
            int act = actCount - 1;
            if (term == NO_TERM || act < 0 || act >= BYTES) {
                return false;
            }
            if (openTerms == 2) {
                lefts[act] = term;
            } else {
                rights[act] = term;
            }
            openTerms--;
            minus = false;
            return true;
        }

        private int termOf(int b) {
            if (b >= '0' && b <= '9') {
                return minus ? '0' - b : b - '0';
            }
            if (minus) {
                return NO_TERM;
            }
            if (b >= 'a' && b <= 'c') {
                return COLUMN_A + (b - 'a');
            }
            return b == 'n' ? NOTHING : NO_TERM;
        }

        /** From the last ACT on, as the size of one needs those of what is in it. */
        private void measure() {
            for (int act = Math.min(actCount, BYTES) - 1; act >= 0; act--) {
                int sign = signs[act];
                int size = 1;
                if (!isCompareSign(sign)) {
                    size += sizeAt(act + 1);
                }
                if (sign == '&' || sign == '|') {
                    size += sizeAt(act + size);
                }
                sizes[act] = size;
            }
        }

        int signAt(int act) {
            return act >= 0 && act < actCount && act < BYTES ? signs[act] : 0;
        }

        int sizeAt(int act) {
            return act >= 0 && act < actCount && act < BYTES ? sizes[act] : 0;
        }

        int leftAt(int act) {
            return act >= 0 && act < actCount && act < BYTES ? lefts[act] : NOTHING;
        }

        int rightAt(int act) {
            return act >= 0 && act < actCount && act < BYTES ? rights[act] : NOTHING;
        }

        /** The ACT that the second TEST of & or | is; the first stands right behind the sign. */
        int secondOf(int act) {
            return act + 1 + sizeAt(act + 1);
        }

        boolean isCompare(int act) {
            return isCompareSign(signAt(act));
        }

        private static boolean isCompareSign(int sign) {
            return sign == '<' || sign == '=' || sign == '>';
        }
    }

    /** How two TERMS stand to one another in all ROWS at once. */
    private static final class Sides {
        int less;
        int like;
        int more;
        int lacking;
        int bothLacking;

        void weigh(Table table, int left, int right) {
            less = 0;
            like = 0;
            more = 0;
            lacking = 0;
            bothLacking = 0;
            for (int row = 0; row < table.rows; row++) {
                weighIn(1 << row, table.valueOf(left, row), table.valueOf(right, row));
            }
        }

        private void weighIn(int bit, int left, int right) {
            if (left == NOTHING || right == NOTHING) {
                lacking |= bit;
                bothLacking |= left == right ? bit : 0;
            } else if (left < right) {
                less |= bit;
            } else if (left == right) {
                like |= bit;
            } else {
                more |= bit;
            }
        }
    }

    /** THE ENGINE; with no FAULT done it has what is meant. */
    private static final class Engine {
        private final Table table;
        private final Sides sides = new Sides();
        private final int[] verdicts = new int[BYTES];
        private int all;
        private int done;

        /** RULES that FIRE; LAWS ask on and add to it, so it is looked at ahead of them. */
        int firing;

        Engine(Table table) {
            this.table = table;
        }

        /** Judges all ACTS of a TEST; done are the FAULTS put in whose RULES are on. */
        void work(Text text, int done) {
            all = table.all();
            this.done = done;
            firing = 0;
            for (int act = Math.min(text.actCount, BYTES) - 1; act >= 0; act--) {
                verdicts[act] = text.isCompare(act) ? compared(text, act) : joined(text, act);
            }
        }

        int verdictAt(int act) {
            return act >= 0 && act < BYTES ? verdicts[act] : 0;
        }

        private int joined(Text text, int act) {
            int first = verdictAt(act + 1);
            switch (text.signAt(act)) {
                case '&':
                    return both(first, verdictAt(text.secondOf(act)));
                case '|':
                    return either(first, verdictAt(text.secondOf(act)));
                case '!':
                    return turned(first);
                default:
                    return asked(first, text.isCompare(act + 1));
            }
        }

        /** A RULE that FIRES in some ROWS: those in which its FAULT is done. */
        private int fire(int rule, int rows) {
            if (rows != 0) {
                firing |= 1 << rule;
            }
            return (done >> rule & 1) != 0 ? rows : 0;
        }

        private int noOf(int verdict) {
            return all & ~verdict & ~(verdict >>> 16);
        }

        int turned(int v) {
            int odd = fire(0, nothingOf(v));
            return verdict(noOf(v) | odd, nothingOf(v) & ~odd);
        }

        int asked(int v, boolean ofCompare) {
            int odd = ofCompare ? fire(5, nothingOf(v)) : 0;
            return verdict(nothingOf(v) & ~odd, 0);
        }

        int both(int v, int w) {
            int yes = yesOf(v) & yesOf(w);
            int no = noOf(v) | noOf(w);
            int odd = fire(2, (yesOf(v) & nothingOf(w)) | (nothingOf(v) & yesOf(w)));
            return verdict(yes | odd, all & ~yes & ~no & ~odd);
        }

        int either(int v, int w) {
            int yes = yesOf(v) | yesOf(w);
            int no = noOf(v) & noOf(w);
            int odd = fire(3, (nothingOf(v) & noOf(w)) | (noOf(v) & nothingOf(w)));
            return verdict(yes, all & ~yes & ~no & ~odd);
        }

        private int compared(Text text, int act) {
            int left = text.leftAt(act);
            int right = text.rightAt(act);
            sides.weigh(table, left, right);
            if (text.signAt(act) == '<') {
                int odd = isColumn(right) ? fire(4, sides.like) : 0;
                return verdict(sides.less | odd, sides.lacking);
            }
            if (text.signAt(act) == '=') {
                int odd = fire(1, sides.bothLacking);
                return verdict(sides.like | odd, sides.lacking & ~odd);
            }
            int odd = isColumn(left) && isTold(right) ? fire(6, sides.less) : 0;
            return verdict(sides.more, sides.lacking | odd);
        }

        /** WHICH of a TEST with such a verdict, THE TABLE being some ROWS alone. */
        int answer(int v, int some) {
            int yes = yesOf(v) & some;
            return yes & ~fire(7, table.repeated(yes));
        }
    }

    /** LAWS of a TEST that THE ENGINE has judged, THE TABLE being some of its ROWS alone. */
    private static final class Laws {
        private final Engine engine;
        private final Table table;

        Laws(Engine engine, Table table) {
            this.engine = engine;
            this.table = table;
        }

        boolean isBroken(int law, Text text, int act, int some) {
            if (some == 0) {
                return false;
            }
            int p = engine.verdictAt(act);
            boolean compare = text.isCompare(act);
            switch (law) {
                case 0:
                    return !isThree(p, compare, some);
                case 1:
                    return engine.answer(p, some) != (yesOf(p) & some);
                case 2:
                    return !isMore(p, some);
                case 3:
                    return !isAnsweredAlike(engine.both(p, p), p, some);
                case 4:
                    return !isAnsweredAlike(engine.turned(engine.turned(p)), p, some);
                case 5:
                    return !isParts(p, compare, some);
                default:
                    return !isKinds(p, compare, some);
            }
        }

        private boolean isThree(int p, boolean compare, int some) {
            int yes = engine.answer(p, some);
            int no = engine.answer(engine.turned(p), some);
            int nothing = engine.answer(engine.asked(p, compare), some);
            int together = Integer.bitCount(yes) + Integer.bitCount(no) + Integer.bitCount(nothing);
            return together == Integer.bitCount(some);
        }

        private boolean isMore(int p, int some) {
            int without = engine.answer(p, some & ~Integer.highestOneBit(some));
            return Integer.bitCount(without) <= Integer.bitCount(engine.answer(p, some));
        }

        private boolean isAnsweredAlike(int v, int w, int some) {
            return engine.answer(v, some) == engine.answer(w, some);
        }

        private boolean isParts(int p, boolean compare, int some) {
            int yes = engine.answer(p, some);
            int no = engine.answer(engine.turned(p), some);
            int nothing = engine.answer(engine.asked(p, compare), some);
            for (int column = 0; column < COLUMNS; column++) {
                int together = table.total(yes, column) + table.total(no, column)
                        + table.total(nothing, column);
                if (together != table.total(some, column)) {
                    return false;
                }
            }
            return true;
        }

        private boolean isKinds(int p, boolean compare, int some) {
            int wide = engine.either(p, engine.asked(p, compare));
            int narrow = engine.both(p, engine.asked(engine.turned(p), false));
            int yes = engine.answer(p, some);
            int above = engine.answer(wide, some);
            int below = engine.answer(narrow, some);
            for (int column = 0; column < COLUMNS; column++) {
                int kinds = table.kinds(yes, column);
                if (kinds > table.kinds(above, column) || kinds < table.kinds(below, column)) {
                    return false;
                }
            }
            return true;
        }
    }

    /** A QUARREL CUT DOWN: the ROWS that are left and the ACT that the TEST has become. */
    private static final class Cutter {
        private final Laws laws;
        int left;
        int act;

        Cutter(Laws laws) {
            this.laws = laws;
        }

        /** Each step leaves out a ROW or an ACT, so there are no more steps than both together. */
        void cutDown(int law, Text text, int rows) {
            left = rows;
            act = 0;
            boolean goesOn = true;
            for (int step = 0; step < ROWS + BYTES && goesOn; step++) {
                goesOn = leaveRow(law, text) || narrow(law, text);
            }
        }

        private boolean leaveRow(int law, Text text) {
            for (int row = 0; row < ROWS; row++) {
                int fewer = left & ~(1 << row);
                if (fewer != left && laws.isBroken(law, text, act, fewer)) {
                    left = fewer;
                    return true;
                }
            }
            return false;
        }

        private boolean narrow(int law, Text text) {
            int end = act + text.sizeAt(act);
            for (int inner = act + 1; inner < end; inner++) {
                if (laws.isBroken(law, text, inner, left)) {
                    act = inner;
                    return true;
                }
            }
            return false;
        }
    }

    /** TESTS by LOTS. Rooms wait on a pile, so all of a first TEST comes ahead of the second. */
    private static final class Grower {
        private final int[] rooms = new int[MOST_ROOM];
        private int waiting;
        private int seed;

        void growInto(Text text, int from, int room) {
            text.clear();
            seed = from;
            waiting = 0;
            push(room);
            for (int acts = 0; acts < MOST_ROOM && waiting > 0; acts++) {
                growSign(text, pop());
            }
        }

        private void push(int room) {
            if (waiting >= 0 && waiting < MOST_ROOM) {
                rooms[waiting] = room;
                waiting++;
            }
        }

        private int pop() {
            if (waiting < 1 || waiting > MOST_ROOM) {
                return 1;
            }
            waiting--;
            return rooms[waiting];
        }

        private int lot(int k) {
            seed = 1103515245 * seed + 12345;
            return k > 0 ? (seed >>> 16) % k : 0;
        }

        private void growSign(Text text, int room) {
            int sign = room > 1 ? lot(7) : 4 + lot(3);
            if (room == 2 && sign < 2) {
                sign += 2;
            }
            if (sign >= 0 && sign < SIGNS.length) {
                text.append(SIGNS[sign]);
            }
            if (sign < 2) {
                int first = 1 + lot(room - 2);
                push(room - 1 - first);
                push(first);
            } else if (sign < 4) {
                push(room - 1);
            } else {
                growTerm(text);
                growTerm(text);
            }
        }

        private void growTerm(Text text) {
            int kind = lot(6);
            if (kind < COLUMNS) {
                text.append('a' + kind);
            } else if (kind == 3) {
                text.append('n');
            } else {
                if (kind == 5) {
                    text.append('-');
                }
                text.append('0' + lot(10));
            }
        }
    }

    /** Pairs of RULES that are LEARNT: of each RULE its partners, as bits. */
    private static final class Pairs {
        private final int[] partners = new int[RULES];
        int many;

        private int newPartners(int rule, int fired) {
            boolean isOne = isRule(rule) && (fired >> rule & 1) != 0;
            return isOne ? fired & ~(1 << rule) & ~partners[rule] : 0;
        }

        boolean hasNew(int fired) {
            for (int rule = 0; rule < RULES; rule++) {
                if (newPartners(rule, fired) != 0) {
                    return true;
                }
            }
            return false;
        }

        int keep(int fired) {
            int ends = 0;
            for (int rule = 0; rule < RULES; rule++) {
                int added = newPartners(rule, fired);
                partners[rule] |= added;
                ends += Integer.bitCount(added);
            }
            many += ends / 2;
            return ends / 2;
        }

        boolean isKept(int a, int b) {
            return isRule(a) && isRule(b) && (partners[a] >> b & 1) != 0;
        }
    }

    /**
     * All SMALL tables in one: each of the six ROWS that there may be stands in it twice, as a
     * first and as a second one, and a SMALL table is some ROWS of it. The empty one is left out:
     * nothing QUARRELS on it, and WHICH is there what is meant.
     */
    private static final class Smalls {
        private static final int KINDS = 6, TABLES = 24;
        private static final int[] A_OF = {NOTHING, 0, 1, NOTHING, 0, 1};
        private static final int[] B_OF = {NOTHING, NOTHING, NOTHING, 0, 0, 0};

        private final Table table;
        private final Engine engine;
        private final Laws laws;
        private final int[] tables = new int[TABLES];

        Smalls() {
            table = new Table(2 * KINDS);
            for (int i = 0; i < 2 * KINDS; i++) {
                table.append(A_OF[i % KINDS], B_OF[i % KINDS], 0);
            }
            engine = new Engine(table);
            laws = new Laws(engine, table);
            listTables();
        }

        private void listTables() {
            int next = 0;
            for (int first = 0; first < KINDS; first++) {
                for (int second = NONE; second < KINDS; second++) {
                    boolean isAlone = second == NONE;
                    if ((isAlone || B_OF[first] == B_OF[second]) && next < TABLES) {
                        tables[next] = (1 << first) | (isAlone ? 0 : 1 << (KINDS + second));
                        next++;
                    }
                }
            }
        }

        /** Those of some LAWS with which a TEST QUARRELS on one of the tables, as bits. */
        int quarrelsOf(Text text, int done, int some) {
            engine.work(text, done);
            return brokenOnes(text, some);
        }

        private int brokenOnes(Text text, int some) {
            int broken = 0;
            for (int law = 0; law < LAWS; law++) {
                int bit = some & (1 << law);
                for (int i = 0; i < TABLES && (bit & ~broken) != 0; i++) {
                    broken |= laws.isBroken(law, text, 0, tables[i]) ? bit : 0;
                }
            }
            return broken;
        }

        int unseenFaults(Text text) {
            int holding = ALL_LAWS & ~quarrelsOf(text, 0, ALL_LAWS);
            int meant = yesOf(engine.verdictAt(0));
            int unseen = 0;
            for (int fault = 0; fault < RULES; fault++) {
                engine.work(text, 1 << fault);
                if (isAstray(meant) && brokenOnes(text, holding) == 0) {
                    unseen |= 1 << fault;
                }
            }
            return unseen;
        }

        private boolean isAstray(int meant) {
            for (int i = 0; i < TABLES; i++) {
                if (engine.answer(engine.verdictAt(0), tables[i]) != (meant & tables[i])) {
                    return true;
                }
            }
            return false;
        }
    }

    /** A SHEET; its items are kept as longs, cut to what an item of its FORM has. */
    private static final class Sheet {
        private final long[] items = new long[ITEMS];
        int form;
        int size;

        Sheet() {
            form = LOST;
            size = 0;
        }

        boolean isLost() {
            return form == LOST;
        }

        void renew(int form, int size) {
            this.form = form;
            this.size = Math.max(0, Math.min(size, ITEMS));
            for (int i = 0; i < ITEMS; i++) {
                items[i] = 0;
            }
        }

        boolean hasItem(int i) {
            return i >= 0 && i < size && i < ITEMS;
        }

        boolean hasSpan(int from, int many) {
            return from >= 0 && many >= 0 && from <= size && many <= size - from;
        }

        long item(int i) {
            return hasItem(i) ? items[i] : 0;
        }

        void change(int i, long v) {
            if (hasItem(i)) {
                items[i] = narrowed(v);
            }
        }

        private long narrowed(long v) {
            switch (form) {
                case 0:
                    return (byte) v;
                case 1:
                    return (short) v;
                case 2:
                    return (int) v;
                default:
                    return v;
            }
        }

        /** Begins at the end that is not laid over before it is taken, if both are one SHEET. */
        void take(int to, Sheet source, int from, int many) {
            for (int k = 0; k < many; k++) {
                int i = from < to ? many - 1 - k : k;
                change(to + i, source.item(from + i));
            }
        }
    }
}
