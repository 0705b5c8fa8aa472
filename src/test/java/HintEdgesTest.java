import java.math.BigInteger;

/** The boundary cases of promises 25 to 27: hint, count, digest. */
final class HintEdgesTest extends Edges {
    public static void main(String[] args) throws Exception {
        run(HintEdgesTest.class, 25, 27);
    }

    // ---- 25, hint

    @Says("NULL: SHEET 0, 1.")
    static void promise25NullWhereEitherIsLost(Check check) {
        nullWithoutRow(check, "SHEET 0 is LOST", x -> x.hint());
        ServerLine x = scene(true);
        x.sheet(3, 0, -1);
        x.lose(1);
        long before = x.digest();
        check.due("SHEET 1 is LOST", x.hint(), -11);
        check.due("count(3)", x.count(3), NULL);
        check.due("nothing changes", x.digest(), before);
        check.due("SHEET 1 is LOST still", x.count(4), 2);
        check.due("both are LOST", new ServerLine().hint(), -11);
    }

    @Says("as many as there are items, and as are ASKED: how many.")
    static void promise25AsManyAsThereAreItems(Check check) {
        // 10 is served from 16, 0 is there, 16 from 10.
        int[] all = {1, 0, 1};
        for (int size = 0; size <= 3; size++) {
            ServerLine x = scene(true);
            x.sheet(1, 2, size);
            check.due("of " + size + " items", x.hint(), size);
            for (int t = 0; t < size; t++) {
                check.due("item " + t, x.get(1, 2, t), all[t]);
            }
            check.due("no item more", x.put(1, 2, size, 0), -12);
        }
    }

    @Says("as many as there are items, and as are ASKED: how many.")
    static void promise25AsManyAsAreAsked(Check check) {
        ServerLine x = scene(true);
        Check.fill(x, 0, -1, 1, 3, 0, MOST, 2);
        Check.fill(x, 1, 7, 7, 7, 7, 7);
        check.due("three are ASKED", x.hint(), 3);
        items(check, x, 1, 2, 1, 0, 1, 7, 7);
        x.sheet(0, 0, 0);
        check.due("nothing is ASKED", x.hint(), 0);
        items(check, x, 1, 2, 1, 0, 1, 7, 7);
        Check.fill(x, 0, -1, 3);
        check.due("all are LOST", x.hint(), 0);
        items(check, x, 1, 2, 1, 0, 1, 7, 7);
        check.due("no finding", x.count(3), 0);
    }

    @Says({"Items of SHEET 1, from the first on, become the SERVERS that go on A BEST WAY",
        "0 bytes, 1 shorts, 2 ints"})
    static void promise25FortyOfEachForm(Check check) {
        for (int form = 0; form < 3; form++) {
            ServerLine x = Check.line(Check.row(0, 10, 20), 2, 1, 0);
            Check.fill(x, 0, repeated(40, 0, 1, 2));
            x.sheet(1, form, 40);
            check.due("forty", x.hint(), 40);
            items(check, x, 1, form, repeated(40, 2, 1, 0));
            check.due("the last", x.way(39), x.get(1, form, 39));
            check.due("HINTED goes the best way", x.cost(3), 0);
        }
    }

    @Says("Items of SHEET 1, from the first on, become the SERVERS that go on A BEST WAY")
    static void promise25TheWayOfTheWholeRow(Check check) {
        // Alone, 10 would be 0's: of like ones the least. With 0 behind it, it is 1's.
        ServerLine x = Check.line(Check.row(0, 10, 20), 0, 2);
        Check.fill(x, 0, 1, 0);
        x.sheet(1, 0, 1);
        check.due("one item", x.hint(), 1);
        check.due("it knows what comes", x.get(1, 0, 0), 1);
        Check.fill(x, 0, 1);
        check.due("another row", x.hint(), 1);
        check.due("alone", x.get(1, 0, 0), 0);
    }

    @Says("Items of SHEET 1, from the first on, become the SERVERS that go on A BEST WAY")
    static void promise25TheWayOfTheLineOfNow(Check check) {
        ServerLine x = Check.line(Check.row(0, 10, 20), 0, 2);
        Check.fill(x, 0, 1, 2);
        x.sheet(1, 0, 2);
        check.due("hint()", x.hint(), 2);
        items(check, x, 1, 0, 0, 1);
        x.start(0, 2);
        x.start(1, 0);
        check.due("hint() of other starts", x.hint(), 2);
        items(check, x, 1, 0, 1, 0);
    }

    // ---- 26, count

    @Says("0 N, 1 k, 2 FACTOR, 3 the number of the latest FINDING (0 before any), 4 SHEETS that are not LOST. BAD.")
    static void promise26WhatIs0To4(Check check) {
        for (int what : Check.row(-1, 5, LEAST, MOST)) {
            bad(check, "count " + what, x -> x.count(what));
        }
        ServerLine x = scene(true);
        int[] want = {3, 2, 3, 0, 3};
        for (int what = 0; what < 5; what++) {
            check.due("count " + what, x.count(what), want[what]);
        }
    }

    @Says({"3 the number of the latest FINDING (0 before any)",
        "FINDINGS (answers -10 less the number; they change nothing but count() 3)"})
    static void promise26EachFindingAndTheLatest(Check check) {
        ServerLine x = scene(true);
        check.due("before any", x.count(3), 0);
        check.due("NULL", x.lose(3), -11);
        check.due("NULL", x.count(3), 1);
        check.due("INDEX", x.put(0, 2, 3, 0), -12);
        check.due("INDEX", x.count(3), 2);
        check.due("CAST", x.put(0, 0, 0, 0), -13);
        check.due("CAST", x.count(3), 3);
        check.due("STORE", x.copy(0, 0, 1, 0, 0), -14);
        check.due("STORE", x.count(3), 4);
        check.due("SIZE", x.sheet(0, 0, -1), -15);
        check.due("SIZE", x.count(3), 5);
        check.due("NULL again", x.lose(3), -11);
        check.due("the latest, not the greatest", x.count(3), 1);
    }

    @Says({"NOT -3 (as told), other FINDINGS.", "They change nothing (FINDINGS but count() 3)."})
    static void promise26BadAndNotAreNoFindings(Check check) {
        ServerLine x = Check.line(Check.row(5), 0);
        x.sheet(0, 0, 1);
        check.due("BAD", x.points(0), BAD);
        check.due("NOT", x.share(0), NOT);
        check.due("NOT", x.worstShare(0, 1), NOT);
        check.due("NONE", x.way(1), NONE);
        check.due("BAD, the least int", x.get(4, 0, 0), LEAST);
        check.due("0 before any", x.count(3), 0);
        x.put(0, 1, 0, 0);
        x.points(0);
        x.share(0);
        x.get(4, 0, 0);
        x.put(0, 0, 0, 0);
        check.due("the finding stays", x.count(3), CAST);
    }

    @Says("4 SHEETS that are not LOST")
    static void promise26SheetsFrom0To4(Check check) {
        ServerLine x = new ServerLine();
        for (int s = 0; s < 4; s++) {
            check.due(s + " sheets", x.count(4), s);
            x.sheet(s, 0, s == 0 ? 0 : 40);
        }
        check.due("all four", x.count(4), 4);
        x.sheet(2, 1, 1);
        check.due("made anew", x.count(4), 4);
        for (int s = 3; s >= 0; s--) {
            x.lose(s);
            check.due(s + " sheets", x.count(4), s);
        }
    }

    // ---- 27, digest

    /** Without wrapping: all of it as one great number, cut to 64 bits at the end. */
    private static long digestOf(long... numbers) {
        BigInteger h = BigInteger.valueOf(17);
        for (long number : numbers) {
            h = h.multiply(BigInteger.valueOf(31)).add(BigInteger.valueOf(number));
        }
        return h.longValue();
    }

    @Says("where SHEET 0 is not LOST: asked(), cost() of 0 to 4, best(), pays()")
    static void promise27WhereSheet0IsLost(Check check) {
        check.due("a new object", new ServerLine().digest(), digestOf(1, 1, 2, 0, 0, 0));
        ServerLine x = scene(false);
        check.due("other sheets", x.digest(), digestOf(3, 2, 3, 2, 0, 10, 16, 0, 2));
        check.due("it makes no finding", x.count(3), 0);
        x.put(1, 0, 0, 9);
        check.due("items are not in it", x.digest(), digestOf(3, 2, 3, 2, 0, 10, 16, 0, 2));
        x.lose(3);
        check.due("findings are not in it", x.digest(), digestOf(3, 2, 3, 2, 0, 10, 16, 0, 2));
    }

    @Says("where SHEET 0 is not LOST: asked(), cost() of 0 to 4, best(), pays()")
    static void promise27WhereSheet0IsNotLost(Check check) {
        ServerLine x = new ServerLine();
        x.sheet(0, 0, 0);
        check.due("no items", x.digest(), digestOf(1, 1, 2, 1, 0, 0, 0, 0, 0, 0, 0, 0, 0, -1));
        ServerLine y = scene(true);
        long want = digestOf(3, 2, 3, 3, 0, 10, 16, 0, 2, 3, 12, 24, 12, 12, 12, 12, -1);
        check.due("of all", y.digest(), want);
        check.due("again", y.digest(), want);
        y.lose(0);
        check.due("lost again", y.digest(), digestOf(3, 2, 3, 2, 0, 10, 16, 0, 2));
    }

    @Says({"h is 17; h becomes 31 h and each of: count() 0, 1, 2, 4, PLACES of all POINTS, STARTS of all SERVERS",
        "as longs that wrap"})
    static void promise27WrapsWithSixPointsAndThreeServers(Check check) {
        ServerLine x = Check.line(Check.row(1000, 999, 998, 997, 996, 0), 5, 0, 5);
        Check.fill(x, 0, repeated(40, 0, 5));
        x.sheet(1, 0, 40);
        x.sheet(2, 0, 0);
        x.sheet(3, 0, 1);
        x.factor(9);
        // All hints are 0: HINTED goes from end to end; BOTH has one at each end.
        long want = digestOf(6, 3, 9, 4, 1000, 999, 998, 997, 996, 0, 5, 0, 5, 40, 0, 0, 0, 40000, 0, 0, -1);
        check.due("wraps", x.digest(), want);
    }
}
