/** Promises 1 to 6: a new object, and the line. */
public final class LinePromisesTest {
    private static final int LEAST = Integer.MIN_VALUE;
    private static final int MOST = Integer.MAX_VALUE;
    private static final Check check = new Check();

    public static void main(String[] args) {
        newObject();
        points();
        place();
        servers();
        start();
        factor();
        refusalsChangeNothing();
        check.end();
    }

    private static void newObject() {
        ServerLine x = new ServerLine();
        check.due("1: count(0)", x.count(0), 1);
        check.due("1: count(1)", x.count(1), 1);
        check.due("1: count(2)", x.count(2), 2);
        check.due("1: count(3)", x.count(3), 0);
        check.due("1: count(4)", x.count(4), 0);
        for (int s = 0; s < 4; s++) {
            check.due("1: lose " + s, x.lose(s), -11);
        }
        check.due("1: place", x.place(0, 5), 0);
        check.due("1: start", x.start(0, 0), 0);
        check.due("1: factor", x.factor(3), 2);
        ServerLine other = new ServerLine();
        check.due("1: objects share nothing", other.place(0, 1), 0);
        check.due("1: objects share no factor", other.count(2), 2);
    }

    private static void points() {
        ServerLine x = new ServerLine();
        check.due("2: points(6)", x.points(6), 1);
        check.due("2: count(0)", x.count(0), 6);
        for (int p = 0; p < 6; p++) {
            check.due("2: new at 0", x.place(p, 100 + p), 0);
        }
        x.servers(3);
        x.start(0, 5);
        x.start(1, 3);
        x.start(2, 2);
        check.due("2: points(3)", x.points(3), 6);
        check.due("2: start 0 was no point", x.start(0, 0), 0);
        check.due("2: start 1 was no point", x.start(1, 0), 0);
        check.due("2: start 2 stays", x.start(2, 2), 2);
        check.due("2: place 2 stays", x.place(2, 102), 102);
        check.due("2: points(6) again", x.points(6), 3);
        check.due("2: place 2 still stays", x.place(2, 102), 102);
        for (int p = 3; p < 6; p++) {
            check.due("2: new again at 0", x.place(p, 0), 0);
        }
        check.due("2: points(6) alike", x.points(6), 6);
        check.due("2: points(0)", x.points(0), -2);
        check.due("2: points(7)", x.points(7), -2);
        check.due("2: points(-1)", x.points(-1), -2);
        check.due("2: points(least)", x.points(LEAST), -2);
        check.due("2: points(most)", x.points(MOST), -2);
        check.due("2: points(1)", x.points(1), 6);
    }

    private static void place() {
        ServerLine x = new ServerLine();
        x.points(2);
        check.due("3: place(1, 1000)", x.place(1, 1000), 0);
        check.due("3: place(1, 0)", x.place(1, 0), 1000);
        check.due("3: place(0, 0) alike", x.place(0, 0), 0);
        check.due("3: place(0, -1)", x.place(0, -1), -2);
        check.due("3: place(0, 1001)", x.place(0, 1001), -2);
        check.due("3: place(2, 0)", x.place(2, 0), -2);
        check.due("3: place(-1, 0)", x.place(-1, 0), -2);
        check.due("3: place(least, 0)", x.place(LEAST, 0), -2);
        check.due("3: place(most, most)", x.place(MOST, MOST), -2);
    }

    private static void servers() {
        ServerLine x = new ServerLine();
        x.points(4);
        check.due("4: servers(3)", x.servers(3), 1);
        check.due("4: new starts at 0", x.start(1, 3), 0);
        check.due("4: new starts at 0", x.start(2, 2), 0);
        check.due("4: servers(2)", x.servers(2), 3);
        check.due("4: count(1)", x.count(1), 2);
        check.due("4: no server 2", x.start(2, 1), -2);
        check.due("4: servers(3) again", x.servers(3), 2);
        check.due("4: start 1 stays", x.start(1, 3), 3);
        check.due("4: 2 is new", x.start(2, 1), 0);
        check.due("4: servers(0)", x.servers(0), -2);
        check.due("4: servers(4)", x.servers(4), -2);
        check.due("4: servers(-1)", x.servers(-1), -2);
        check.due("4: servers(least)", x.servers(LEAST), -2);
        check.due("4: servers(most)", x.servers(MOST), -2);
        check.due("4: servers(1)", x.servers(1), 3);
    }

    private static void start() {
        ServerLine x = new ServerLine();
        x.points(3);
        x.servers(2);
        check.due("5: start(1, 2)", x.start(1, 2), 0);
        check.due("5: start(1, 1)", x.start(1, 1), 2);
        check.due("5: start(0, 0)", x.start(0, 0), 0);
        check.due("5: start(1, 3)", x.start(1, 3), -2);
        check.due("5: start(1, -1)", x.start(1, -1), -2);
        check.due("5: start(2, 0)", x.start(2, 0), -2);
        check.due("5: start(-1, 0)", x.start(-1, 0), -2);
        check.due("5: start(most, least)", x.start(MOST, LEAST), -2);
        check.due("5: still", x.start(1, 0), 1);
    }

    private static void factor() {
        ServerLine x = new ServerLine();
        check.due("6: factor(9)", x.factor(9), 2);
        check.due("6: factor(1)", x.factor(1), 9);
        check.due("6: factor(0)", x.factor(0), -2);
        check.due("6: factor(10)", x.factor(10), -2);
        check.due("6: factor(-1)", x.factor(-1), -2);
        check.due("6: factor(least)", x.factor(LEAST), -2);
        check.due("6: factor(most)", x.factor(MOST), -2);
        check.due("6: count(2)", x.count(2), 1);
    }

    private static void refusalsChangeNothing() {
        ServerLine x = Check.line(Check.row(1, 2, 3), 1, 2);
        Check.fill(x, 0, 0, 1, 2);
        long before = x.digest();
        x.points(0);
        x.points(7);
        x.place(3, 1);
        x.place(0, 1001);
        x.servers(0);
        x.servers(4);
        x.start(0, 3);
        x.start(2, 0);
        x.factor(0);
        x.factor(10);
        check.due("2 to 6: refusals change nothing", x.digest(), before);
        check.due("2 to 6: BAD is no finding", x.count(3), 0);
    }
}
