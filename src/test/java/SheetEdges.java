/** SHEETS of the Terms, Promises 30 to 35. */
final class SheetEdges {
    private static final int N = -100, BAD = -2;
    private static final int MOST = Integer.MAX_VALUE, LEAST = Integer.MIN_VALUE;
    private static final long NO_ITEM = Long.MIN_VALUE;
    private static final int[] NO_SHEETS = {-1, 4, MOST, LEAST};
    private static final int[] NO_FORMS = {-1, 4, MOST, LEAST};

    /** Items that SHEET 0 of RICH has not: it has seven longs. */
    private static final int[] NO_ITEMS = {-1, 7, 8, 47, 48, MOST, LEAST};

    private SheetEdges() {
    }

    static void addTo(Edges edges) {
        edges.at("Terms");
        edges.add("SHEETS 0 .. 3 are LOST (at first)", SheetEdges::lostAtFirst);
        edges.add("or a row of a FORM: 0 bytes, 1 shorts, 2 ints, 3 longs,", SheetEdges::forms);
        edges.add("of 0 to 48 items", SheetEdges::upTo48);
        edges.add("(0 at first).", SheetEdges::zeroAtFirst);
        edges.add("FINDINGS (answers -10 less the number; they change nothing but count() 8):", SheetEdges::findings);
        edges.add("1 NULL: the SHEET is LOST;", SheetEdges::findsNull);
        edges.add("2 INDEX: there is no such item;", SheetEdges::findsIndex);
        edges.add("3 CAST: it has another FORM;", SheetEdges::findsCast);
        edges.add("4 STORE: unlike FORMS;", SheetEdges::findsStore);
        edges.add("5 SIZE: below 0.", SheetEdges::findsSize);
        edges.at("Promise 30");
        edges.add("A SHEET is a new row of a FORM with n items: n.", SheetEdges::sheet);
        edges.add("BAD: SHEET, FORM, above 48;", SheetEdges::sheetBad);
        edges.add("SIZE.", SheetEdges::sheetSize);
        edges.add("BAD: SHEET, FORM, above 48; SIZE.", SheetEdges::sheetOrder);
        edges.at("Promise 31");
        edges.add("It is LOST: how many items it had.", SheetEdges::lose);
        edges.add("BAD", SheetEdges::loseBad);
        edges.add("NULL.", SheetEdges::loseNull);
        edges.at("Promise 32");
        edges.add("Item i, treated as of a FORM, becomes v (the lowest bits that it has, with its sign): 1.", SheetEdges::lay);
        edges.add("BAD;", SheetEdges::layBad);
        edges.add("NULL;", SheetEdges::layNull);
        edges.add("CAST;", SheetEdges::layCast);
        edges.add("INDEX.", SheetEdges::layIndex);
        edges.add("BAD; NULL; CAST; INDEX.", SheetEdges::layOrder);
        edges.at("Promise 33");
        edges.add("Item i of it.", SheetEdges::get);
        edges.add("BAD: the least long;", SheetEdges::getBad);
        edges.add("so are NULL, CAST, INDEX (count() 8 tells).", SheetEdges::getFinds);
        addCopyAndWrite(edges);
    }

    private static void addCopyAndWrite(Edges edges) {
        edges.at("Promise 34");
        edges.add("n items of SHEET s, from i on, come to SHEET t", SheetEdges::copy);
        edges.add("(perhaps s, as they were)", SheetEdges::copyWithin);
        edges.add(", from j on: 1.", SheetEdges::copyFromOn);
        edges.add("BAD: the SHEETS;", SheetEdges::copyBad);
        edges.add("NULL: s, t;", SheetEdges::copyNull);
        edges.add("STORE;", SheetEdges::copyStore);
        edges.add("INDEX: below 0, not so many", SheetEdges::copyIndex);
        edges.add("(with n 0, too, if i or j is above how many there are).", SheetEdges::copyNone);
        edges.add("BAD: the SHEETS; NULL: s, t; STORE; INDEX", SheetEdges::copyOrder);
        edges.at("Promise 35");
        edges.add("THE TABLE, ROW by ROW, comes to a SHEET", SheetEdges::write);
        edges.add("(of each the lowest bits that an item has, with its sign)", SheetEdges::writeNothing);
        edges.add("from item 0 on, as many as there are items: how many.", SheetEdges::writeMany);
        edges.add("BAD", SheetEdges::writeBad);
        edges.add("NULL.", SheetEdges::writeNull);
    }

    private static void items(Check check, GrownAsks x, int s, int form, long... due) {
        for (int i = 0; i < due.length; i++) check.due("item " + i + " of SHEET " + s, x.get(s, form, i), due[i]);
    }

    private static void lostAtFirst(Check check) {
        for (int s = 0; s < 4; s++) {
            GrownAsks x = new GrownAsks();
            check.due("lose " + s, x.lose(s), -11);
            check.due("sheet " + s, x.sheet(s, 0, 1), 1);
            check.due("lose " + s, x.lose(s), 1);
            check.due("lose " + s, x.lose(s), -11);
        }
        check.due("there is no SHEET 4", new GrownAsks().sheet(4, 0, 1), BAD);
        check.due("there is no SHEET -1", new GrownAsks().sheet(-1, 0, 1), BAD);
    }

    /** What a FORM makes of a number: its lowest bits, with their sign. */
    private static long cut(int form, long v) {
        int bits = 8 << form;
        return v << 64 - bits >> 64 - bits;
    }

    private static final long[] NUMBERS = {0, 1, -1, 127, 128, 255, 256, -128, -129, 32767, 32768, 65535, -32768, -32769,
        2147483647L, 2147483648L, 4294967295L, -2147483648L, -2147483649L, Long.MAX_VALUE, Long.MIN_VALUE};

    private static void forms(Check check) {
        for (int form = 0; form < 4; form++) {
            GrownAsks x = new GrownAsks();
            x.sheet(2, form, 1);
            for (long v : NUMBERS) {
                x.lay(2, form, 0, v);
                check.due(v + " in FORM " + form, x.get(2, form, 0), cut(form, v));
            }
        }
        check.due("there is no FORM 4", new GrownAsks().sheet(0, 4, 1), BAD);
        check.due("there is no FORM -1", new GrownAsks().sheet(0, -1, 1), BAD);
    }

    private static void upTo48(Check check) {
        for (int n = 0; n <= 48; n++) {
            GrownAsks x = new GrownAsks();
            check.due("sheet of " + n, x.sheet(0, 2, n), n);
            if (n > 0) check.due("the last of " + n, x.lay(0, 2, n - 1, 7), 1);
            check.due("the one behind", x.lay(0, 2, n, 7), -12);
            check.due("items", x.lose(0), n);
        }
        check.due("of 49", new GrownAsks().sheet(0, 2, 49), BAD);
        check.due("of -1", new GrownAsks().sheet(0, 2, -1), -15);
    }

    private static void zeroAtFirst(Check check) {
        for (int form = 0; form < 4; form++) {
            GrownAsks x = new GrownAsks();
            for (int i = 0; i < 2; i++) {
                x.sheet(1, form, 48);
                for (int k = 0; k < 48; k++) {
                    check.due("item " + k, x.get(1, form, k), 0);
                    x.lay(1, form, k, 7);
                }
            }
            x.lose(1);
            x.sheet(1, 3 - form, 48);
            for (int k = 0; k < 48; k++) check.due("item " + k + " of another FORM", x.get(1, 3 - form, k), 0);
        }
    }

    private static void findings(Check check) {
        check.finds(State.RICH, "lose(3)", x -> x.lose(3), 1);
        check.finds(State.RICH, "lay(0, 3, 7, 1)", x -> x.lay(0, 3, 7, 1), 2);
        check.finds(State.RICH, "lay(0, 2, 0, 1)", x -> x.lay(0, 2, 0, 1), 3);
        check.finds(State.RICH, "copy(0, 0, 1, 0, 1)", x -> x.copy(0, 0, 1, 0, 1), 4);
        check.finds(State.RICH, "sheet(0, 3, -1)", x -> x.sheet(0, 3, -1), 5);
    }

    private static void findsNull(Check check) {
        check.finds(State.RICH, "read(3)", x -> x.read(3), State.NULL);
        check.finds(State.RICH, "lose(3)", x -> x.lose(3), State.NULL);
        check.finds(State.RICH, "lay(3, 0, 0, 1)", x -> x.lay(3, 0, 0, 1), State.NULL);
        check.findsAs(State.RICH, "get(3, 0, 0)", x -> x.get(3, 0, 0), State.NULL, NO_ITEM);
        check.finds(State.RICH, "copy(3, 0, 0, 0, 0)", x -> x.copy(3, 0, 0, 0, 0), State.NULL);
        check.finds(State.RICH, "write(3)", x -> x.write(3), State.NULL);
        check.due("one without items is not LOST", State.RICH.make(0).lose(2), 0);
    }

    private static void findsIndex(Check check) {
        for (int i : NO_ITEMS) {
            check.finds(State.RICH, "lay(0, 3, " + i + ", 1)", x -> x.lay(0, 3, i, 1), State.INDEX);
            check.findsAs(State.RICH, "get(0, 3, " + i + ")", x -> x.get(0, 3, i), State.INDEX, NO_ITEM);
            check.finds(State.RICH, "copy(0, " + i + ", 0, 0, 1)", x -> x.copy(0, i, 0, 0, 1), State.INDEX);
            check.finds(State.RICH, "copy(0, 0, 0, " + i + ", 1)", x -> x.copy(0, 0, 0, i, 1), State.INDEX);
        }
        check.finds(State.RICH, "lay(2, 2, 0, 1)", x -> x.lay(2, 2, 0, 1), State.INDEX);
        check.finds(State.FULL, "lay(0, 3, 48, 1)", x -> x.lay(0, 3, 48, 1), State.INDEX);
    }

    private static void findsCast(Check check) {
        for (int form = 0; form < 3; form++) {
            int f = form;
            check.finds(State.RICH, "lay(0, " + f + ", 0, 1)", x -> x.lay(0, f, 0, 1), State.CAST);
            check.findsAs(State.RICH, "get(0, " + f + ", 0)", x -> x.get(0, f, 0), State.CAST, NO_ITEM);
        }
    }

    private static void findsStore(Check check) {
        check.finds(State.RICH, "copy(0, 0, 1, 0, 1)", x -> x.copy(0, 0, 1, 0, 1), State.STORE);
        check.finds(State.RICH, "copy(1, 0, 2, 0, 0)", x -> x.copy(1, 0, 2, 0, 0), State.STORE);
        check.due("like ones", State.RICH.make(0).copy(0, 0, 0, 0, 7), 1);
    }

    private static void findsSize(Check check) {
        for (int n : new int[] {-1, -48, LEAST}) {
            for (int s = 0; s < 4; s++) {
                int t = s;
                check.finds(State.RICH, "sheet(" + t + ", 0, " + n + ")", x -> x.sheet(t, 0, n), State.SIZE);
            }
        }
    }

    private static void sheet(Check check) {
        for (int s = 0; s < 4; s++) {
            for (int form = 0; form < 4; form++) {
                GrownAsks x = State.RICH.make(0);
                check.due("sheet(" + s + ", " + form + ", 48)", x.sheet(s, form, 48), 48);
                check.due("a new row", x.get(s, form, 3), 0);
                check.due("of that FORM", x.get(s, form, 47), 0);
                check.due("of none", x.sheet(s, form, 0), 0);
                check.due("none", x.lay(s, form, 0, 1), -12);
                check.due("not LOST", x.lose(s), 0);
                check.due("the others stay", x.lose(s == 0 ? 1 : 0), s == 0 ? 2 : 7);
            }
        }
    }

    private static void sheetBad(Check check) {
        for (int s : NO_SHEETS) check.refuses(State.RICH, "sheet(" + s + ", 0, 1)", x -> x.sheet(s, 0, 1), BAD);
        for (int form : NO_FORMS) check.refuses(State.RICH, "sheet(0, " + form + ", 1)", x -> x.sheet(0, form, 1), BAD);
        for (int n : new int[] {49, 50, 256, MOST}) {
            check.refuses(State.RICH, "sheet(0, 3, " + n + ")", x -> x.sheet(0, 3, n), BAD);
            check.refuses(State.RICH, "sheet(3, 0, " + n + ")", x -> x.sheet(3, 0, n), BAD);
        }
    }

    private static void sheetSize(Check check) {
        check.finds(State.RICH, "sheet(0, 3, -1)", x -> x.sheet(0, 3, -1), State.SIZE);
        check.finds(State.NEW, "sheet(3, 0, " + LEAST + ")", x -> x.sheet(3, 0, LEAST), State.SIZE);
    }

    private static void sheetOrder(Check check) {
        for (int s : NO_SHEETS) check.refuses(State.RICH, "sheet(" + s + ", 0, -1)", x -> x.sheet(s, 0, -1), BAD);
        for (int form : NO_FORMS) check.refuses(State.RICH, "sheet(0, " + form + ", -1)", x -> x.sheet(0, form, -1), BAD);
    }

    private static void lose(Check check) {
        GrownAsks x = State.RICH.make(0);
        check.due("seven", x.lose(0), 7);
        check.due("two", x.lose(1), 2);
        check.due("none", x.lose(2), 0);
        for (int s = 0; s < 4; s++) check.due("LOST", x.lose(s), -11);
        check.due("48", State.FULL.make(0).lose(0), 48);
    }

    private static void loseBad(Check check) {
        for (int s : NO_SHEETS) check.refuses(State.RICH, "lose(" + s + ")", x -> x.lose(s), BAD);
    }

    private static void loseNull(Check check) {
        check.finds(State.RICH, "lose(3)", x -> x.lose(3), State.NULL);
        for (int s = 0; s < 4; s++) {
            int t = s;
            check.finds(State.NEW, "lose(" + t + ")", x -> x.lose(t), State.NULL);
        }
    }

    private static void lay(Check check) {
        for (int form = 0; form < 4; form++) {
            for (long v : NUMBERS) {
                GrownAsks x = new GrownAsks();
                x.sheet(3, form, 48);
                check.due("lay " + v, x.lay(3, form, 0, v), 1);
                check.due("lay " + v, x.lay(3, form, 47, v), 1);
                check.due(v + " in FORM " + form, x.get(3, form, 0), cut(form, v));
                check.due(v + " in FORM " + form, x.get(3, form, 47), cut(form, v));
                check.due("beside it", x.get(3, form, 1), 0);
                check.due("beside it", x.get(3, form, 46), 0);
            }
        }
    }

    private static void layBad(Check check) {
        for (int s : NO_SHEETS) check.refuses(State.RICH, "lay(" + s + ", 3, 0, 1)", x -> x.lay(s, 3, 0, 1), BAD);
        for (int form : NO_FORMS) check.refuses(State.RICH, "lay(0, " + form + ", 0, 1)", x -> x.lay(0, form, 0, 1), BAD);
    }

    private static void layNull(Check check) {
        for (int form = 0; form < 4; form++) {
            int f = form;
            check.finds(State.RICH, "lay(3, " + f + ", 0, 1)", x -> x.lay(3, f, 0, 1), State.NULL);
        }
    }

    private static void layCast(Check check) {
        for (int form = 0; form < 3; form++) {
            int f = form;
            check.finds(State.RICH, "lay(0, " + f + ", 0, 1)", x -> x.lay(0, f, 0, 1), State.CAST);
        }
        check.finds(State.RICH, "lay(1, 1, 0, 1)", x -> x.lay(1, 1, 0, 1), State.CAST);
    }

    private static void layIndex(Check check) {
        for (int i : NO_ITEMS) check.finds(State.RICH, "lay(0, 3, " + i + ", 1)", x -> x.lay(0, 3, i, 1), State.INDEX);
        check.finds(State.RICH, "lay(2, 2, 0, 1)", x -> x.lay(2, 2, 0, 1), State.INDEX);
        check.finds(State.FULL, "lay(0, 3, 48, 1)", x -> x.lay(0, 3, 48, 1), State.INDEX);
    }

    private static void layOrder(Check check) {
        check.refuses(State.RICH, "lay(4, 4, -1, 1)", x -> x.lay(4, 4, -1, 1), BAD);
        check.refuses(State.RICH, "lay(3, 4, -1, 1)", x -> x.lay(3, 4, -1, 1), BAD);
        check.refuses(State.RICH, "lay(0, 4, 9, 1)", x -> x.lay(0, 4, 9, 1), BAD);
        check.finds(State.RICH, "lay(3, 0, -1, 1)", x -> x.lay(3, 0, -1, 1), State.NULL);
        check.finds(State.RICH, "lay(0, 0, 7, 1)", x -> x.lay(0, 0, 7, 1), State.CAST);
        check.finds(State.RICH, "lay(2, 0, 0, 1)", x -> x.lay(2, 0, 0, 1), State.CAST);
    }

    private static void get(Check check) {
        GrownAsks x = State.RICH.make(0);
        items(check, x, 0, 3, 5, 6, 7, NO_ITEM, -1, 10, 11);
        items(check, x, 1, 0, 3, 4);
        check.due("no FINDING by the least long that is there", x.count(8), 0);
        check.due("item 47", State.FULL.make(0).get(0, 3, 47), 9);
    }

    private static void getBad(Check check) {
        for (int s : NO_SHEETS) check.refuses(State.RICH, "get(" + s + ", 3, 0)", x -> x.get(s, 3, 0), NO_ITEM);
        for (int form : NO_FORMS) {
            check.refuses(State.RICH, "get(0, " + form + ", 0)", x -> x.get(0, form, 0), NO_ITEM);
            check.refuses(State.RICH, "get(3, " + form + ", 0)", x -> x.get(3, form, 0), NO_ITEM);
        }
    }

    private static void getFinds(Check check) {
        for (int i : NO_ITEMS) {
            check.findsAs(State.RICH, "get(3, 3, " + i + ")", x -> x.get(3, 3, i), State.NULL, NO_ITEM);
            check.findsAs(State.RICH, "get(0, 2, " + i + ")", x -> x.get(0, 2, i), State.CAST, NO_ITEM);
            check.findsAs(State.RICH, "get(0, 3, " + i + ")", x -> x.get(0, 3, i), State.INDEX, NO_ITEM);
        }
        check.findsAs(State.RICH, "get(3, 0, 0)", x -> x.get(3, 0, 0), State.NULL, NO_ITEM);
        check.findsAs(State.RICH, "get(0, 0, 0)", x -> x.get(0, 0, 0), State.CAST, NO_ITEM);
        check.findsAs(State.RICH, "get(2, 2, 0)", x -> x.get(2, 2, 0), State.INDEX, NO_ITEM);
    }

    /** SHEET 0 of a FORM with 1, 2, .. n, and SHEET 1 of it with m items. */
    private static GrownAsks counted(int form, int n, int m) {
        GrownAsks x = new GrownAsks();
        x.sheet(0, form, n);
        for (int i = 0; i < n; i++) x.lay(0, form, i, i + 1);
        x.sheet(1, form, m);
        return x;
    }

    private static void copy(Check check) {
        for (int form = 0; form < 4; form++) {
            GrownAsks x = counted(form, 5, 5);
            check.due("copy", x.copy(0, 2, 1, 1, 2), 1);
            items(check, x, 1, form, 0, 3, 4, 0, 0);
            items(check, x, 0, form, 1, 2, 3, 4, 5);
        }
        GrownAsks x = counted(3, 48, 48);
        check.due("all", x.copy(0, 0, 1, 0, 48), 1);
        for (int i = 0; i < 48; i++) check.due("item " + i, x.get(1, 3, i), i + 1);
    }

    private static void copyWithin(Check check) {
        for (int form = 0; form < 4; form++) {
            GrownAsks x = counted(form, 6, 0);
            check.due("up by one", x.copy(0, 0, 0, 1, 5), 1);
            items(check, x, 0, form, 1, 1, 2, 3, 4, 5);
            x = counted(form, 6, 0);
            check.due("down by one", x.copy(0, 1, 0, 0, 5), 1);
            items(check, x, 0, form, 2, 3, 4, 5, 6, 6);
            x = counted(form, 6, 0);
            check.due("up by two", x.copy(0, 1, 0, 3, 3), 1);
            items(check, x, 0, form, 1, 2, 3, 2, 3, 4);
            check.due("in its place", x.copy(0, 0, 0, 0, 6), 1);
            items(check, x, 0, form, 1, 2, 3, 2, 3, 4);
        }
    }

    private static void copyFromOn(Check check) {
        GrownAsks x = counted(2, 5, 3);
        check.due("the last to the last", x.copy(0, 4, 1, 2, 1), 1);
        items(check, x, 1, 2, 0, 0, 5);
        check.due("the first to the first", x.copy(0, 0, 1, 0, 1), 1);
        items(check, x, 1, 2, 1, 0, 5);
        check.due("none", x.copy(0, 0, 1, 0, 0), 1);
        items(check, x, 1, 2, 1, 0, 5);
    }

    private static void copyBad(Check check) {
        for (int s : NO_SHEETS) {
            check.refuses(State.RICH, "copy(" + s + ", 0, 0, 0, 1)", x -> x.copy(s, 0, 0, 0, 1), BAD);
            check.refuses(State.RICH, "copy(0, 0, " + s + ", 0, 1)", x -> x.copy(0, 0, s, 0, 1), BAD);
            check.refuses(State.RICH, "copy(" + s + ", 0, " + s + ", 0, 1)", x -> x.copy(s, 0, s, 0, 1), BAD);
        }
    }

    private static void copyNull(Check check) {
        check.finds(State.RICH, "copy(3, 0, 0, 0, 1)", x -> x.copy(3, 0, 0, 0, 1), State.NULL);
        check.finds(State.RICH, "copy(0, 0, 3, 0, 1)", x -> x.copy(0, 0, 3, 0, 1), State.NULL);
        check.finds(State.RICH, "copy(3, 0, 3, 0, 0)", x -> x.copy(3, 0, 3, 0, 0), State.NULL);
    }

    private static void copyStore(Check check) {
        check.finds(State.RICH, "copy(0, 0, 1, 0, 1)", x -> x.copy(0, 0, 1, 0, 1), State.STORE);
        check.finds(State.RICH, "copy(1, 0, 0, 0, 1)", x -> x.copy(1, 0, 0, 0, 1), State.STORE);
        check.finds(State.RICH, "copy(0, 0, 2, 0, 0)", x -> x.copy(0, 0, 2, 0, 0), State.STORE);
    }

    private static void copyIndex(Check check) {
        int[][] none = {{-1, 0, 1}, {0, -1, 1}, {0, 0, -1}, {0, 0, 8}, {1, 0, 7}, {0, 1, 7}, {7, 0, 1}, {0, 7, 1},
            {MOST, 0, 1}, {0, MOST, 1}, {0, 0, MOST}, {1, 1, MOST}, {MOST, MOST, MOST}, {LEAST, 0, 1}, {0, LEAST, 1},
            {0, 0, LEAST}, {1, 0, LEAST}, {MOST, 0, LEAST}, {-1, -1, 1}, {3, 3, 5}};
        for (int[] i : none) {
            check.finds(State.RICH, "copy(0, " + i[0] + ", 0, " + i[1] + ", " + i[2] + ")",
                    x -> x.copy(0, i[0], 0, i[1], i[2]), State.INDEX);
        }
        GrownAsks x = counted(2, 5, 3);
        check.due("not so many there", x.copy(0, 0, 1, 0, 4), -12);
        check.due("not so many here", x.copy(1, 0, 0, 0, 4), -12);
        items(check, x, 1, 2, 0, 0, 0);
        check.due("just so many", x.copy(0, 2, 1, 0, 3), 1);
    }

    private static void copyNone(Check check) {
        int[][] none = {{8, 0}, {0, 8}, {-1, 0}, {0, -1}, {MOST, 0}, {0, MOST}, {LEAST, 0}, {0, LEAST}};
        for (int[] i : none) {
            check.finds(State.RICH, "copy(0, " + i[0] + ", 0, " + i[1] + ", 0)",
                    x -> x.copy(0, i[0], 0, i[1], 0), State.INDEX);
        }
        GrownAsks x = counted(2, 5, 3);
        check.due("right behind the last of both", x.copy(0, 5, 1, 3, 0), 1);
        check.due("one more here", x.copy(0, 6, 1, 3, 0), -12);
        check.due("one more there", x.copy(0, 5, 1, 4, 0), -12);
        x.sheet(1, 2, 0);
        check.due("of one without items", x.copy(1, 0, 0, 0, 0), 1);
        check.due("to one without items", x.copy(0, 0, 1, 0, 0), 1);
    }

    private static void copyOrder(Check check) {
        check.refuses(State.RICH, "copy(3, 0, 4, 0, 1)", x -> x.copy(3, 0, 4, 0, 1), BAD);
        check.refuses(State.RICH, "copy(-1, -1, 3, 0, 1)", x -> x.copy(-1, -1, 3, 0, 1), BAD);
        check.finds(State.RICH, "copy(3, -1, 0, 0, 1)", x -> x.copy(3, -1, 0, 0, 1), State.NULL);
        check.finds(State.RICH, "copy(0, 0, 3, -1, 1)", x -> x.copy(0, 0, 3, -1, 1), State.NULL);
        check.finds(State.RICH, "copy(0, -1, 1, 0, 1)", x -> x.copy(0, -1, 1, 0, 1), State.STORE);
        check.finds(State.RICH, "copy(0, 0, 1, 0, -1)", x -> x.copy(0, 0, 1, 0, -1), State.STORE);
    }

    private static void write(Check check) {
        for (int form = 0; form < 4; form++) {
            GrownAsks x = new GrownAsks();
            x.row(1, 2, -9);
            x.row(9, 0, 4);
            State.lay(x, 3, form, 55, 55, 55, 55, 55, 55, 55);
            check.due("write", x.write(3), 6);
            items(check, x, 3, form, 1, 2, -9, 9, 0, 4, 55);
            check.due("THE TABLE stays", x.count(0), 2);
            check.due("no FINDING", x.count(8), 0);
        }
    }

    private static void writeNothing(Check check) {
        for (int form = 0; form < 4; form++) {
            GrownAsks x = new GrownAsks();
            x.row(N, -9, 9);
            x.sheet(0, form, 3);
            check.due("write", x.write(0), 3);
            items(check, x, 0, form, N, -9, 9);
            x.empty();
            check.due("read again", x.read(0), 1);
            check.due("NOTHING again", x.at(0, 0), N);
        }
    }

    private static void writeMany(Check check) {
        for (int n = 0; n <= 48; n++) {
            GrownAsks x = new GrownAsks();
            for (int i = 0; i < 8; i++) x.row(1, 1, 1);
            x.sheet(0, 1, n);
            check.due("write to " + n + " items", x.write(0), Math.min(n, 24));
            for (int i = 0; i < n; i++) check.due("item " + i, x.get(0, 1, i), i < 24 ? 1 : 0);
        }
        GrownAsks x = new GrownAsks();
        State.lay(x, 0, 0, 5);
        check.due("of no ROWS", x.write(0), 0);
        check.due("it stays", x.get(0, 0, 0), 5);
    }

    private static void writeBad(Check check) {
        for (int s : NO_SHEETS) check.refuses(State.RICH, "write(" + s + ")", x -> x.write(s), BAD);
    }

    private static void writeNull(Check check) {
        check.finds(State.RICH, "write(3)", x -> x.write(3), State.NULL);
        check.finds(State.NEW, "write(0)", x -> x.write(0), State.NULL);
    }
}
