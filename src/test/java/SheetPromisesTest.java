/** Promises 20 to 27: sheets. */
public final class SheetPromisesTest {
    private static final int LEAST = Integer.MIN_VALUE;
    private static final int MOST = Integer.MAX_VALUE;
    private static final int[] NO_SHEETS = {-1, 4, LEAST, MOST};
    private static final int[] NO_FORMS = {-1, 3, LEAST, MOST};
    private static final Check check = new Check();

    public static void main(String[] args) {
        sheet();
        lose();
        put();
        get();
        itemRefusalsInOrder();
        copy();
        copyOntoItself();
        copyRefusals();
        hint();
        hintRefusals();
        count();
        digest();
        check.end();
    }

    private static void sheet() {
        ServerLine x = new ServerLine();
        for (int form = 0; form < 3; form++) {
            check.due("20: 40 items", x.sheet(form, form, 40), 40);
            check.due("20: 0 at first", x.get(form, form, 39), 0);
            check.due("20: no more than 40", x.sheet(form, form, 41), -2);
        }
        check.due("20: no items", x.sheet(3, 0, 0), 0);
        check.due("20: count", x.count(4), 4);
        x.put(0, 0, 2, 5);
        check.due("20: anew", x.sheet(0, 0, 3), 3);
        check.due("20: anew", x.get(0, 0, 2), 0);
        check.due("20: another form", x.sheet(0, 2, 1), 1);
        check.due("20: another form", x.put(0, 2, 0, MOST), 1);
        check.due("20: shorter", x.put(0, 2, 1, 0), -12);
        check.due("20: SIZE", x.sheet(0, 2, -1), -15);
        check.due("20: SIZE is a finding", x.count(3), 5);
        check.due("20: SIZE", x.sheet(0, 0, LEAST), -15);
        check.due("20: a refusal changes nothing", x.get(0, 2, 0), MOST);
        check.due("20: most", x.sheet(0, 0, MOST), -2);
        for (int bad : NO_SHEETS) {
            check.due("20: sheet " + bad, x.sheet(bad, 0, -1), -2);
        }
        for (int bad : NO_FORMS) {
            check.due("20: form " + bad, x.sheet(0, bad, -1), -2);
        }
        check.due("20: a refusal changes nothing", x.get(0, 2, 0), MOST);
    }

    private static void lose() {
        ServerLine x = new ServerLine();
        check.due("21: NULL", x.lose(3), -11);
        check.due("21: NULL is a finding", x.count(3), 1);
        x.sheet(3, 1, 7);
        x.put(3, 1, 0, 4);
        check.due("21: items it had", x.lose(3), 7);
        check.due("21: lost", x.count(4), 0);
        check.due("21: lost", x.lose(3), -11);
        x.sheet(3, 1, 7);
        check.due("21: new again", x.get(3, 1, 0), 0);
        for (int bad : NO_SHEETS) {
            check.due("21: sheet " + bad, x.lose(bad), -2);
        }
    }

    private static void put() {
        ServerLine x = new ServerLine();
        x.sheet(0, 0, 2);
        x.sheet(1, 1, 2);
        x.sheet(2, 2, 2);
        check.due("22: byte", x.put(0, 0, 1, 384), 1);
        check.due("22: byte", x.get(0, 0, 1), -128);
        check.due("22: byte beside", x.get(0, 0, 0), 0);
        check.due("22: short", x.put(1, 1, 0, 98304), 1);
        check.due("22: short", x.get(1, 1, 0), -32768);
        check.due("22: short", x.put(1, 1, 1, 40000), 1);
        check.due("22: short", x.get(1, 1, 1), 40000 - 65536);
        check.due("22: int", x.put(2, 2, 0, LEAST), 1);
        check.due("22: int", x.get(2, 2, 0), LEAST);
        check.due("22: int", x.put(2, 2, 1, 98304), 1);
        check.due("22: int", x.get(2, 2, 1), 98304);
        check.due("22: no finding", x.count(3), 0);
    }

    private static void get() {
        ServerLine x = new ServerLine();
        x.sheet(2, 1, 3);
        x.put(2, 1, 2, -7);
        check.due("23: get", x.get(2, 1, 2), -7);
        check.due("23: get", x.get(2, 1, 0), 0);
        for (int bad : NO_SHEETS) {
            check.due("23: sheet " + bad, x.get(bad, 1, 0), LEAST);
        }
        for (int bad : NO_FORMS) {
            check.due("23: form " + bad, x.get(2, bad, 0), LEAST);
        }
        check.due("23: BAD is no finding", x.count(3), 0);
        check.due("23: INDEX", x.get(2, 1, 3), LEAST);
        check.due("23: INDEX", x.count(3), 2);
        check.due("23: CAST", x.get(2, 2, 0), LEAST);
        check.due("23: CAST", x.count(3), 3);
        check.due("23: NULL", x.get(1, 1, 0), LEAST);
        check.due("23: NULL", x.count(3), 1);
        check.due("23: INDEX", x.get(2, 1, -1), LEAST);
        check.due("23: INDEX", x.count(3), 2);
        x.get(2, 1, 0);
        check.due("23: the latest finding stays", x.count(3), 2);
    }

    private static void itemRefusalsInOrder() {
        ServerLine x = new ServerLine();
        for (int bad : NO_SHEETS) {
            check.due("22: sheet " + bad, x.put(bad, 0, 0, 0), -2);
        }
        for (int bad : NO_FORMS) {
            check.due("22: form " + bad, x.put(0, bad, 0, 0), -2);
        }
        check.due("22: BAD is no finding", x.count(3), 0);
        check.due("22: NULL ahead of INDEX", x.put(0, 0, -1, 0), -11);
        x.sheet(0, 1, 2);
        check.due("22: CAST ahead of INDEX", x.put(0, 0, 2, 0), -13);
        check.due("22: CAST is a finding", x.count(3), 3);
        check.due("22: INDEX", x.put(0, 1, 2, 0), -12);
        check.due("22: INDEX is a finding", x.count(3), 2);
        check.due("22: INDEX", x.put(0, 1, -1, 0), -12);
        check.due("22: INDEX", x.put(0, 1, LEAST, 0), -12);
        check.due("22: INDEX", x.put(0, 1, MOST, 0), -12);
        check.due("23: CAST ahead of INDEX", x.get(0, 2, 2), LEAST);
        check.due("23: CAST ahead of INDEX", x.count(3), 3);
    }

    private static void copy() {
        ServerLine x = new ServerLine();
        Check.fill(x, 0, 1, 2, 3, 4, 5);
        Check.fill(x, 3, 10, 20, 30, 40);
        check.due("24: copy", x.copy(0, 1, 3, 2, 2), 1);
        int[] want = {10, 20, 2, 3};
        for (int i = 0; i < 4; i++) {
            check.due("24: item " + i, x.get(3, 2, i), want[i]);
        }
        check.due("24: none, at both ends", x.copy(0, 5, 3, 4, 0), 1);
        check.due("24: all", x.copy(3, 0, 0, 1, 4), 1);
        check.due("24: all", x.get(0, 2, 4), 3);
        check.due("24: beside", x.get(0, 2, 0), 1);
        x.put(3, 2, 0, 99);
        check.due("24: rows stay two", x.get(0, 2, 1), 10);
    }

    private static void copyOntoItself() {
        ServerLine x = new ServerLine();
        Check.fill(x, 2, 1, 2, 3, 4, 5);
        check.due("24: upward", x.copy(2, 0, 2, 1, 4), 1);
        int[] up = {1, 1, 2, 3, 4};
        for (int i = 0; i < 5; i++) {
            check.due("24: upward " + i, x.get(2, 2, i), up[i]);
        }
        check.due("24: downward", x.copy(2, 2, 2, 0, 3), 1);
        int[] down = {2, 3, 4, 3, 4};
        for (int i = 0; i < 5; i++) {
            check.due("24: downward " + i, x.get(2, 2, i), down[i]);
        }
    }

    private static void copyRefusals() {
        ServerLine x = new ServerLine();
        Check.fill(x, 0, 1, 2, 3);
        x.sheet(1, 0, 5);
        Check.fill(x, 2, 7, 8, 9, 10);
        for (int bad : NO_SHEETS) {
            check.due("24: BAD ahead of NULL", x.copy(bad, 0, 3, 0, 0), -2);
            check.due("24: BAD ahead of NULL", x.copy(3, 0, bad, 0, 0), -2);
        }
        check.due("24: BAD is no finding", x.count(3), 0);
        check.due("24: NULL s", x.copy(3, 0, 0, 0, 0), -11);
        check.due("24: NULL t", x.copy(0, -1, 3, 0, 0), -11);
        check.due("24: STORE", x.copy(0, 0, 1, 0, 0), -14);
        check.due("24: STORE is a finding", x.count(3), 4);
        check.due("24: STORE ahead of INDEX", x.copy(0, -1, 1, 0, -1), -14);
        int[][] beyond = {
            {-1, 0, 1}, {0, -1, 1}, {0, 0, -1}, {0, 0, 4}, {1, 0, 3}, {0, 2, 3}, {4, 0, 0}, {0, 5, 0},
            {MOST, 0, 1}, {1, 0, MOST}, {1, MOST, MOST}, {LEAST, LEAST, LEAST}, {0, 0, LEAST},
            {MOST, MOST, MOST}, {3, 0, 1}
        };
        for (int[] b : beyond) {
            check.due("24: INDEX " + b[0] + " " + b[1] + " " + b[2], x.copy(0, b[0], 2, b[1], b[2]), -12);
        }
        check.due("24: INDEX is a finding", x.count(3), 2);
        for (int i = 0; i < 4; i++) {
            check.due("24: a refusal changes nothing", x.get(2, 2, i), 7 + i);
        }
    }

    private static void hint() {
        ServerLine x = Check.line(Check.row(0, 10, 16), 0, 2);
        Check.fill(x, 0, 1, 9, 0, 2, -1);
        Check.fill(x, 1, 7, 7, 7, 7);
        check.due("25: as many as are asked", x.hint(), 3);
        int[] want = {1, 0, 1, 7};
        for (int i = 0; i < 4; i++) {
            check.due("25: item " + i, x.get(1, 2, i), want[i]);
        }
        check.due("25: hinted goes the best way", x.cost(3), x.best());
        for (int form = 0; form < 3; form++) {
            x.sheet(1, form, 2);
            check.due("25: as many as there are items", x.hint(), 2);
            check.due("25: form " + form, x.get(1, form, 0), 1);
            check.due("25: form " + form, x.get(1, form, 1), 0);
        }
        x.sheet(1, 0, 0);
        check.due("25: no items", x.hint(), 0);
        x.sheet(0, 0, 0);
        x.sheet(1, 0, 4);
        check.due("25: none asked", x.hint(), 0);
        check.due("25: no finding", x.count(3), 0);
    }

    private static void hintRefusals() {
        ServerLine x = new ServerLine();
        check.due("25: NULL both", x.hint(), -11);
        x.sheet(0, 0, 1);
        check.due("25: NULL 1", x.hint(), -11);
        x.lose(0);
        x.sheet(1, 0, 1);
        x.put(1, 0, 0, 9);
        check.due("25: NULL 0", x.hint(), -11);
        check.due("25: a refusal changes nothing", x.get(1, 0, 0), 9);
        check.due("25: NULL is a finding", x.count(3), 1);
    }

    private static void count() {
        ServerLine x = new ServerLine();
        x.points(5);
        x.servers(3);
        x.factor(7);
        x.sheet(1, 0, 1);
        x.sheet(3, 0, 0);
        x.put(0, 0, 0, 0);
        int[] want = {5, 3, 7, 1, 2};
        for (int what = 0; what < 5; what++) {
            check.due("26: count(" + what + ")", x.count(what), want[what]);
        }
        int[] bad = {-1, 5, LEAST, MOST};
        for (int what : bad) {
            check.due("26: count(" + what + ")", x.count(what), -2);
        }
        x.sheet(0, 0, -5);
        check.due("26: the latest finding", x.count(3), 5);
        x.cost(9);
        check.due("26: BAD is none", x.count(3), 5);
    }

    private static long next(long h, long number) {
        return 31 * h + number;
    }

    private static void digest() {
        ServerLine x = new ServerLine();
        long empty = next(next(next(next(next(next(17, 1), 1), 2), 0), 0), 0);
        check.due("27: a new object", x.digest(), empty);
        check.due("27: no finding", x.count(3), 0);
        x.lose(0);
        check.due("27: findings are not in it", x.digest(), empty);
        ServerLine y = Check.line(Check.row(0, 10, 16), 0, 2);
        Check.fill(y, 0, 1, 0, 1, 2, 1, 1);
        Check.fill(y, 1, 0, 1);
        long h = 17;
        for (int what : Check.row(3, 2, 2, 2, 0, 10, 16, 0, 2, 6)) {
            h = next(h, what);
        }
        for (int rule = 0; rule < 5; rule++) {
            h = next(h, y.cost(rule));
        }
        h = next(next(h, y.best()), y.pays());
        check.due("27: all of it", y.digest(), h);
        check.due("27: again", y.digest(), h);
    }
}
