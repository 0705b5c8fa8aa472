/** The boundary cases of promises 20 to 24: sheets and their items. */
final class SheetEdgesTest extends Edges {
    private static final int[] NO_SHEETS = {-1, 4, LEAST, MOST};
    private static final int[] NO_FORMS = {-1, 3, LEAST, MOST};

    public static void main(String[] args) throws Exception {
        run(SheetEdgesTest.class, 20, 24);
    }

    // ---- 20, sheet

    @Says("A SHEET is a new row of a FORM with n items: n. BAD: SHEET, FORM, above 40; SIZE.")
    static void promise20SheetsAre0To3AndFormsAre0To2(Check check) {
        for (int s : NO_SHEETS) {
            bad(check, "sheet " + s, x -> x.sheet(s, 0, 1));
        }
        for (int form : NO_FORMS) {
            bad(check, "form " + form, x -> x.sheet(0, form, 1));
        }
        ServerLine x = new ServerLine();
        for (int s = 0; s < 4; s++) {
            for (int form = 0; form < 3; form++) {
                check.due("sheet " + s + " form " + form, x.sheet(s, form, 2), 2);
                check.due("its last item", x.get(s, form, 1), 0);
            }
            check.due("count(4)", x.count(4), s + 1);
        }
    }

    @Says({"BAD: SHEET, FORM, above 40; SIZE.", "of 0 to 40 items (0 at first)"})
    static void promise20Above40IsBad(Check check) {
        bad(check, "41", x -> x.sheet(0, 2, 41));
        bad(check, "most", x -> x.sheet(0, 2, MOST));
        bad(check, "41 on a lost one", x -> x.sheet(3, 0, 41));
        ServerLine x = new ServerLine();
        for (int form = 0; form < 3; form++) {
            check.due("40", x.sheet(0, form, 40), 40);
            check.due("the last item", x.put(0, form, 39, 1), 1);
            check.due("the one behind it", x.put(0, form, 40, 1), -12);
        }
    }

    @Says("of 0 to 40 items (0 at first)")
    static void promise20NoItemsIsARowAllTheSame(Check check) {
        ServerLine x = new ServerLine();
        check.due("sheet(2, 1, 0)", x.sheet(2, 1, 0), 0);
        check.due("it is not LOST", x.count(4), 1);
        check.due("it has a form", x.put(2, 0, 0, 0), -13);
        check.due("it has no items", x.put(2, 1, 0, 0), -12);
        check.due("lose(2)", x.lose(2), 0);
        check.due("it is LOST", x.count(4), 0);
    }

    @Says({"above 40; SIZE.", "5 SIZE: below 0."})
    static void promise20SizeBelow0(Check check) {
        for (int form = 0; form < 3; form++) {
            int f = form;
            refused(check, "-1", x -> x.sheet(0, f, -1), -15, SIZE);
            refused(check, "least", x -> x.sheet(1, f, LEAST), -15, SIZE);
            refusedWithoutRow(check, "-1", x -> x.sheet(0, f, -1), -15, SIZE);
            refused(check, "-1 on a lost one", x -> x.sheet(3, f, -1), -15, SIZE);
        }
    }

    @Says("Refusals, the first that fits: BAD -2")
    static void promise20BadAheadOfSize(Check check) {
        for (int s : NO_SHEETS) {
            bad(check, "sheet " + s, x -> x.sheet(s, 0, -1));
        }
        for (int form : NO_FORMS) {
            bad(check, "form " + form, x -> x.sheet(0, form, -1));
        }
    }

    @Says({"A SHEET is a new row of a FORM with n items: n.", "(0 at first)"})
    static void promise20ANewRowHasNoOldItems(Check check) {
        ServerLine x = new ServerLine();
        Check.fillForm(x, 0, 1, 5, 6, 7);
        x.sheet(0, 1, 3);
        items(check, x, 0, 1, 0, 0, 0);
        Check.fillForm(x, 0, 1, 5, 6, 7);
        x.sheet(0, 1, 1);
        check.due("shorter", x.get(0, 1, 1), LEAST);
        x.sheet(0, 1, 4);
        items(check, x, 0, 1, 0, 0, 0, 0);
        Check.fillForm(x, 0, 1, 5, 6, 7);
        x.sheet(0, 2, 3);
        items(check, x, 0, 2, 0, 0, 0);
        check.due("the old form is gone", x.put(0, 1, 0, 0), -13);
        check.due("one sheet", x.count(4), 1);
    }

    // ---- 21, lose

    @Says("It is LOST: how many items it had. BAD; NULL.")
    static void promise21HowManyItemsItHad(Check check) {
        ServerLine x = new ServerLine();
        for (int n : Check.row(0, 1, 39, 40)) {
            for (int s = 0; s < 4; s++) {
                x.sheet(s, s % 3, n);
                check.due("sheet " + s + " of " + n, x.lose(s), n);
                check.due("count(4)", x.count(4), 0);
            }
        }
        check.due("no finding", x.count(3), 0);
    }

    @Says("It is LOST: how many items it had. BAD; NULL.")
    static void promise21NullWhereItIsLostAlready(Check check) {
        refused(check, "lose(3)", x -> x.lose(3), -11, NULL);
        nullWithoutRow(check, "lose(0)", x -> x.lose(0));
        ServerLine x = scene(true);
        check.due("lose(0)", x.lose(0), 3);
        check.due("lose(0) again", x.lose(0), -11);
        check.due("the others stay", x.count(4), 2);
    }

    @Says("It is LOST: how many items it had. BAD; NULL.")
    static void promise21NoSuchSheetIsBad(Check check) {
        for (int s : NO_SHEETS) {
            bad(check, "lose " + s, x -> x.lose(s));
        }
    }

    @Says("1 NULL: the SHEET is LOST")
    static void promise21ALostSheetHasNoItems(Check check) {
        ServerLine x = new ServerLine();
        Check.fillForm(x, 2, 0, 1, 2);
        x.lose(2);
        check.due("put", x.put(2, 0, 0, 1), -11);
        check.due("get", x.get(2, 0, 0), LEAST);
        check.due("copy from it", x.copy(2, 0, 2, 0, 0), -11);
        x.sheet(2, 0, 2);
        items(check, x, 2, 0, 0, 0);
    }

    // ---- 22, put

    private static void kept(Check check, int form, int v, int want) {
        ServerLine x = new ServerLine();
        x.sheet(0, form, 3);
        check.due("put " + v, x.put(0, form, 1, v), 1);
        items(check, x, 0, form, 0, want, 0);
    }

    @Says({"becomes v (the lowest bits that it has): 1.", "0 bytes, 1 shorts, 2 ints"})
    static void promise22BytesKeepTheLowestBits(Check check) {
        kept(check, 0, 127, 127);
        kept(check, 0, 128, -128);
        kept(check, 0, -128, -128);
        kept(check, 0, -129, 127);
        kept(check, 0, 255, -1);
        kept(check, 0, 256, 0);
        kept(check, 0, MOST, -1);
        kept(check, 0, LEAST, 0);
    }

    @Says({"becomes v (the lowest bits that it has): 1.", "0 bytes, 1 shorts, 2 ints"})
    static void promise22ShortsKeepTheLowestBits(Check check) {
        kept(check, 1, 128, 128);
        kept(check, 1, 32767, 32767);
        kept(check, 1, 32768, -32768);
        kept(check, 1, -32768, -32768);
        kept(check, 1, -32769, 32767);
        kept(check, 1, 65535, -1);
        kept(check, 1, 65536, 0);
        kept(check, 1, MOST, -1);
        kept(check, 1, LEAST, 0);
    }

    @Says({"becomes v (the lowest bits that it has): 1.", "0 bytes, 1 shorts, 2 ints"})
    static void promise22IntsKeepAll(Check check) {
        kept(check, 2, 32768, 32768);
        kept(check, 2, 65536, 65536);
        kept(check, 2, -32769, -32769);
        kept(check, 2, MOST, MOST);
        kept(check, 2, LEAST, LEAST);
    }

    @Says("BAD; NULL; CAST; INDEX.")
    static void promise22BadAheadOfNull(Check check) {
        for (int s : NO_SHEETS) {
            bad(check, "put on " + s, x -> x.put(s, 0, 0, 1));
            bad(check, "put on " + s, x -> x.put(s, 2, -1, 1));
        }
        for (int form : NO_FORMS) {
            bad(check, "put as " + form, x -> x.put(0, form, 0, 1));
            bad(check, "put as " + form + " on a lost one", x -> x.put(3, form, -1, 1));
        }
    }

    @Says({"BAD; NULL; CAST; INDEX.", "1 NULL: the SHEET is LOST"})
    static void promise22NullAheadOfCastAndIndex(Check check) {
        for (int form = 0; form < 3; form++) {
            int f = form;
            refused(check, "put as " + f, x -> x.put(3, f, 0, 1), -11, NULL);
            refused(check, "put as " + f + " at -1", x -> x.put(3, f, -1, 1), -11, NULL);
            nullWithoutRow(check, "put as " + f + " at 40", x -> x.put(0, f, 40, 1));
        }
    }

    @Says({"Item i, treated as of a FORM", "BAD; NULL; CAST; INDEX.", "3 CAST: it has another FORM"})
    static void promise22CastAheadOfIndex(Check check) {
        refused(check, "ints as bytes", x -> x.put(0, 0, 0, 1), -13, CAST);
        refused(check, "ints as shorts", x -> x.put(0, 1, 0, 1), -13, CAST);
        refused(check, "bytes as shorts", x -> x.put(1, 1, 0, 1), -13, CAST);
        refused(check, "bytes as ints", x -> x.put(1, 2, 0, 1), -13, CAST);
        refused(check, "shorts as bytes", x -> x.put(2, 0, 0, 1), -13, CAST);
        refused(check, "shorts as ints", x -> x.put(2, 2, 0, 1), -13, CAST);
        refused(check, "no such item either", x -> x.put(0, 0, 3, 1), -13, CAST);
        refused(check, "no such item either", x -> x.put(0, 0, -1, 1), -13, CAST);
    }

    @Says({"BAD; NULL; CAST; INDEX.", "2 INDEX: there is no such item"})
    static void promise22IndexWhereThereIsNoSuchItem(Check check) {
        for (int i : Check.row(3, 4, 40, -1, LEAST, MOST)) {
            refused(check, "put at " + i, x -> x.put(0, 2, i, 1), -12, INDEX);
        }
        refused(check, "behind the last byte", x -> x.put(1, 0, 2, 1), -12, INDEX);
        refused(check, "behind the last short", x -> x.put(2, 1, 1, 1), -12, INDEX);
        ServerLine x = scene(true);
        check.due("the first", x.put(0, 2, 0, 8), 1);
        check.due("the last", x.put(0, 2, 2, 9), 1);
        items(check, x, 0, 2, 8, 0, 9);
    }

    // ---- 23, get

    private static void least(Check check, String call, Call made, int finding) {
        refused(check, call, made, LEAST, finding);
    }

    @Says("Item i of it. BAD: the least int; so are NULL, CAST, INDEX (count() 3 tells).")
    static void promise23BadIsTheLeastInt(Check check) {
        for (int s : NO_SHEETS) {
            least(check, "get of " + s, x -> x.get(s, 0, 0), 0);
        }
        for (int form : NO_FORMS) {
            least(check, "get as " + form, x -> x.get(0, form, 0), 0);
            least(check, "get as " + form + " of a lost one", x -> x.get(3, form, -1), 0);
        }
    }

    @Says("so are NULL, CAST, INDEX (count() 3 tells)")
    static void promise23FindingsAreTheLeastIntInTheirOrder(Check check) {
        least(check, "NULL", x -> x.get(3, 0, 0), NULL);
        least(check, "NULL ahead of INDEX", x -> x.get(3, 2, -1), NULL);
        refusedWithoutRow(check, "NULL", x -> x.get(0, 2, 0), LEAST, NULL);
        least(check, "CAST", x -> x.get(0, 0, 0), CAST);
        least(check, "CAST", x -> x.get(0, 1, 0), CAST);
        least(check, "CAST", x -> x.get(1, 2, 0), CAST);
        least(check, "CAST", x -> x.get(2, 0, 0), CAST);
        least(check, "CAST ahead of INDEX", x -> x.get(1, 1, 2), CAST);
        for (int i : Check.row(3, 40, -1, LEAST, MOST)) {
            least(check, "INDEX " + i, x -> x.get(0, 2, i), INDEX);
        }
    }

    @Says("(count() 3 tells)")
    static void promise23AnItemMayBeTheLeastIntItself(Check check) {
        ServerLine x = new ServerLine();
        x.sheet(0, 2, 40);
        check.due("put", x.put(0, 2, 39, LEAST), 1);
        check.due("the last item", x.get(0, 2, 39), LEAST);
        check.due("no finding", x.count(3), 0);
        check.due("behind it", x.get(0, 2, 40), LEAST);
        check.due("a finding", x.count(3), INDEX);
    }

    // ---- 24, copy

    @Says("BAD: the SHEETS; NULL: s, t; STORE; INDEX: below 0, not so many.")
    static void promise24NoSuchSheetIsBad(Check check) {
        for (int s : NO_SHEETS) {
            bad(check, "from " + s, x -> x.copy(s, 0, 1, 0, 1));
            bad(check, "to " + s, x -> x.copy(1, 0, s, 0, 1));
            bad(check, "from a lost one to " + s, x -> x.copy(3, -1, s, -1, -1));
            bad(check, "from " + s + " to a lost one", x -> x.copy(s, -1, 3, -1, -1));
        }
    }

    @Says({"NULL: s, t; STORE; INDEX: below 0, not so many.", "1 NULL: the SHEET is LOST"})
    static void promise24NullAheadOfStoreAndIndex(Check check) {
        refused(check, "from a lost one", x -> x.copy(3, 0, 0, 0, 0), -11, NULL);
        refused(check, "to a lost one", x -> x.copy(0, 0, 3, 0, 0), -11, NULL);
        refused(check, "from it to itself", x -> x.copy(3, 0, 3, 0, 0), -11, NULL);
        refused(check, "no such items either", x -> x.copy(3, -1, 0, 9, 41), -11, NULL);
        refused(check, "no such items either", x -> x.copy(0, 9, 3, -1, -1), -11, NULL);
        nullWithoutRow(check, "from SHEET 0", x -> x.copy(0, 0, 1, 0, 0));
        nullWithoutRow(check, "to SHEET 0", x -> x.copy(1, 0, 0, 0, 0));
    }

    @Says({"STORE; INDEX: below 0, not so many.", "4 STORE: unlike FORMS"})
    static void promise24StoreAheadOfIndex(Check check) {
        for (int from = 0; from < 3; from++) {
            for (int to = 0; to < 3; to++) {
                if (from != to) {
                    int s = from;
                    int t = to;
                    refused(check, s + " to " + t, x -> x.copy(s, 0, t, 0, 1), -14, STORE);
                    refused(check, s + " to " + t + ", none", x -> x.copy(s, 0, t, 0, 0), -14, STORE);
                    refused(check, s + " to " + t + ", -1", x -> x.copy(s, 0, t, 0, -1), -14, STORE);
                    refused(check, s + " to " + t + ", 9", x -> x.copy(s, -1, t, 9, 9), -14, STORE);
                }
            }
        }
    }

    @Says("INDEX: below 0, not so many.")
    static void promise24IndexBelow0(Check check) {
        refused(check, "i -1", x -> x.copy(0, -1, 0, 0, 1), -12, INDEX);
        refused(check, "j -1", x -> x.copy(0, 0, 0, -1, 1), -12, INDEX);
        refused(check, "n -1", x -> x.copy(0, 1, 0, 1, -1), -12, INDEX);
        refused(check, "i -1, none", x -> x.copy(0, -1, 0, 0, 0), -12, INDEX);
        refused(check, "j -1, none", x -> x.copy(0, 0, 0, -1, 0), -12, INDEX);
        refused(check, "i least", x -> x.copy(0, LEAST, 0, 0, 1), -12, INDEX);
        refused(check, "j least", x -> x.copy(0, 0, 0, LEAST, 1), -12, INDEX);
        refused(check, "n least", x -> x.copy(0, 0, 0, 0, LEAST), -12, INDEX);
        refused(check, "all least", x -> x.copy(0, LEAST, 0, LEAST, LEAST), -12, INDEX);
    }

    @Says("INDEX: below 0, not so many.")
    static void promise24IndexNotSoMany(Check check) {
        refused(check, "4 of 3", x -> x.copy(0, 0, 0, 0, 4), -12, INDEX);
        refused(check, "3 from 1", x -> x.copy(0, 1, 0, 0, 3), -12, INDEX);
        refused(check, "3 to 1", x -> x.copy(0, 0, 0, 1, 3), -12, INDEX);
        refused(check, "1 from 3", x -> x.copy(0, 3, 0, 0, 1), -12, INDEX);
        refused(check, "1 to 3", x -> x.copy(0, 0, 0, 3, 1), -12, INDEX);
        refused(check, "none from 4", x -> x.copy(0, 4, 0, 0, 0), -12, INDEX);
        refused(check, "none to 4", x -> x.copy(0, 0, 0, 4, 0), -12, INDEX);
        refused(check, "i most", x -> x.copy(0, MOST, 0, 0, 1), -12, INDEX);
        refused(check, "j most", x -> x.copy(0, 0, 0, MOST, 1), -12, INDEX);
        refused(check, "n most", x -> x.copy(0, 1, 0, 1, MOST), -12, INDEX);
        refused(check, "all most", x -> x.copy(0, MOST, 0, MOST, MOST), -12, INDEX);
    }

    @Says("n items of SHEET s, from i on, come to SHEET t")
    static void promise24NoneAndAllOfForty(Check check) {
        ServerLine x = new ServerLine();
        Check.fillForm(x, 0, 1, repeated(40, 3, -4));
        x.sheet(3, 1, 40);
        check.due("none, behind the last of both", x.copy(0, 40, 3, 40, 0), 1);
        check.due("none, at the first", x.copy(0, 0, 3, 0, 0), 1);
        check.due("nothing came", x.get(3, 1, 0), 0);
        check.due("the last alone", x.copy(0, 39, 3, 0, 1), 1);
        check.due("it came", x.get(3, 1, 0), -4);
        check.due("nothing beside it", x.get(3, 1, 1), 0);
        check.due("all 40", x.copy(0, 0, 3, 0, 40), 1);
        items(check, x, 3, 1, repeated(40, 3, -4));
        check.due("41", x.copy(0, 0, 3, 0, 41), -12);
        x.put(0, 1, 0, 9);
        check.due("two rows all the same", x.get(3, 1, 0), 3);
        x.sheet(1, 0, 0);
        x.sheet(2, 0, 0);
        check.due("none of none", x.copy(1, 0, 2, 0, 0), 1);
        check.due("one of none", x.copy(1, 0, 2, 0, 1), -12);
        check.due("none behind none", x.copy(1, 1, 2, 0, 0), -12);
    }

    @Says("come to SHEET t (perhaps s, as they were), from j on: 1.")
    static void promise24OntoItselfAsTheyWere(Check check) {
        for (int form = 0; form < 3; form++) {
            ServerLine x = new ServerLine();
            Check.fillForm(x, 1, form, 1, 2, 3, 4, 5);
            check.due("upward by one", x.copy(1, 0, 1, 1, 4), 1);
            items(check, x, 1, form, 1, 1, 2, 3, 4);
            check.due("downward by two", x.copy(1, 2, 1, 0, 3), 1);
            items(check, x, 1, form, 2, 3, 4, 3, 4);
            check.due("all onto all", x.copy(1, 0, 1, 0, 5), 1);
            items(check, x, 1, form, 2, 3, 4, 3, 4);
        }
    }
}
