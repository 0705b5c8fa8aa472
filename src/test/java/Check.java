/** Counts the answers of one test that are not as due, and ends the test. */
final class Check {
    private final String prefix;
    private int asked = 0;
    private int wrong = 0;

    Check() {
        this("");
    }

    Check(String prefix) {
        this.prefix = prefix;
    }

    void due(String call, long got, long want) {
        asked++;
        if (got != want) {
            wrong++;
            System.out.println(prefix + call + " answered " + got + ", due is " + want);
        }
    }

    boolean isClean() {
        return wrong == 0;
    }

    int askedCount() {
        return asked;
    }

    void end() {
        System.out.println(asked + " answers, " + wrong + " not as due");
        if (wrong != 0 || asked == 0) {
            System.exit(1);
        }
    }

    /** Puts a new row of ints on a sheet. */
    static void fill(ServerLine x, int sheet, int... items) {
        fillForm(x, sheet, 2, items);
    }

    static void fillForm(ServerLine x, int sheet, int form, int... items) {
        x.sheet(sheet, form, items.length);
        for (int i = 0; i < items.length; i++) {
            x.put(sheet, form, i, items[i]);
        }
    }

    /** A line with a point at each place and the servers at these points. */
    static ServerLine line(int[] places, int... starts) {
        ServerLine x = new ServerLine();
        x.points(places.length);
        for (int i = 0; i < places.length; i++) {
            x.place(i, places[i]);
        }
        x.servers(starts.length);
        for (int i = 0; i < starts.length; i++) {
            x.start(i, starts[i]);
        }
        return x;
    }

    static int[] row(int... numbers) {
        return numbers;
    }
}
