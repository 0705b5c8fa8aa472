/** The boundary cases of promises 1 to 6: a new object, and the line. */
final class LineEdgesTest extends Edges {
    public static void main(String[] args) throws Exception {
        run(LineEdgesTest.class, 1, 6);
    }

    // ---- 1, a new object

    @Says("One POINT, one SERVER; all SHEETS are LOST.")
    static void promise01OnePoint(Check check) {
        ServerLine x = new ServerLine();
        check.due("count(0)", x.count(0), 1);
        check.due("place(1, 0)", x.place(1, 0), BAD);
        check.due("start(0, 1)", x.start(0, 1), BAD);
        check.due("start(0, 0)", x.start(0, 0), 0);
        check.due("place(0, 0)", x.place(0, 0), 0);
        check.due("points(1)", x.points(1), 1);
    }

    @Says("One POINT, one SERVER; all SHEETS are LOST.")
    static void promise01OneServer(Check check) {
        ServerLine x = new ServerLine();
        check.due("count(1)", x.count(1), 1);
        check.due("start(1, 0)", x.start(1, 0), BAD);
        check.due("stands(0, 1, 0)", x.stands(0, 1, 0), BAD);
        check.due("servers(1)", x.servers(1), 1);
    }

    @Says({"One POINT, one SERVER; all SHEETS are LOST.", "SHEETS 0 .. 3 are LOST (at first)"})
    static void promise01AllSheetsAreLost(Check check) {
        ServerLine x = new ServerLine();
        check.due("count(4)", x.count(4), 0);
        for (int s = 0; s < 4; s++) {
            check.due("lose " + s, x.lose(s), -11);
            for (int form = 0; form < 3; form++) {
                check.due("put " + s + " " + form, x.put(s, form, 0, 0), -11);
            }
        }
        check.due("asked()", x.asked(), -11);
    }

    @Says("An object is used for at most 512 calls after it has been made")
    static void promise01The512thCallStillAnswers(Check check) {
        ServerLine x = scene(true);
        ServerLine other = scene(true);
        long digest = x.digest();
        // 17 calls have made the scene, one the digest; the last digest is the 512th.
        for (int made = 18; made < 511; made++) {
            switch (made % 6) {
                case 0: check.due("worst(2, 3)", x.worst(2, 3), other.worst(2, 3)); break;
                case 1: check.due("hint()", x.hint(), 2); break;
                case 2: check.due("sheet(3, 0, 40)", x.sheet(3, 0, 40), 40); break;
                case 3: check.due("lose(3)", x.lose(3), 40); break;
                case 4: check.due("get(3, 0, 0)", x.get(3, 0, 0), LEAST); break;
                default: check.due("pays()", x.pays(), NONE); break;
            }
        }
        check.due("digest()", x.digest(), digest);
    }

    // ---- 2, points

    @Says({"N - 1 (1 to 6; 1 at first)", "what it was. BAD."})
    static void promise02TooFewPointsAreBad(Check check) {
        bad(check, "points(0)", x -> x.points(0));
        bad(check, "points(-1)", x -> x.points(-1));
        bad(check, "points(least)", x -> x.points(LEAST));
    }

    @Says({"N - 1 (1 to 6; 1 at first)", "what it was. BAD."})
    static void promise02TooManyPointsAreBad(Check check) {
        bad(check, "points(7)", x -> x.points(7));
        bad(check, "points(most)", x -> x.points(MOST));
    }

    @Says({"N - 1 (1 to 6; 1 at first)", "what it was. BAD."})
    static void promise02From1To6AndWhatItWas(Check check) {
        ServerLine x = new ServerLine();
        int was = 1;
        for (int n : Check.row(1, 2, 3, 4, 5, 6, 6, 1)) {
            check.due("points " + n, x.points(n), was);
            check.due("count(0)", x.count(0), n);
            check.due("the last point", x.place(n - 1, 0), 0);
            check.due("the one behind it", x.place(n, 0), BAD);
            was = n;
        }
    }

    @Says({"N POINTS, at PLACE 0 where they are new", "0 at first"})
    static void promise02NewPointsAreAtPlace0AndOldOnesStay(Check check) {
        ServerLine x = new ServerLine();
        x.place(0, 7);
        x.points(3);
        check.due("old 0", x.place(0, 7), 7);
        check.due("new 1", x.place(1, 8), 0);
        check.due("new 2", x.place(2, 9), 0);
        x.points(6);
        check.due("old 0", x.place(0, 7), 7);
        check.due("old 1", x.place(1, 8), 8);
        check.due("old 2", x.place(2, 9), 9);
        for (int p = 3; p < 6; p++) {
            check.due("new " + p, x.place(p, 1), 0);
        }
    }

    @Says("N POINTS, at PLACE 0 where they are new")
    static void promise02PointsThatComeAgainAreNew(Check check) {
        ServerLine x = Check.line(Check.row(11, 12, 13, 14, 15, 16), 0);
        x.points(1);
        x.points(6);
        check.due("old 0", x.place(0, 0), 11);
        for (int p = 1; p < 6; p++) {
            check.due("new " + p, x.place(p, 0), 0);
        }
    }

    @Says("STARTS that are none are 0 then")
    static void promise02StartsThatAreNoneAre0(Check check) {
        ServerLine x = Check.line(Check.row(1, 2, 3, 4, 5, 6), 3, 4, 5);
        x.points(4);
        check.due("the last point stays", x.start(0, 3), 3);
        check.due("the first that is none", x.start(1, 0), 0);
        check.due("another that is none", x.start(2, 0), 0);
        x.points(3);
        check.due("none now", x.start(0, 0), 0);
    }

    @Says("STARTS that are none are 0 then")
    static void promise02StartsStay0WhenThePointsComeAgain(Check check) {
        ServerLine x = Check.line(Check.row(1, 2, 3), 2, 1);
        x.points(2);
        x.points(3);
        check.due("start 0", x.start(0, 0), 0);
        check.due("start 1", x.start(1, 0), 1);
    }

    @Says("N POINTS, at PLACE 0 where they are new")
    static void promise02PointsToldBehindTheServersAreAsGood(Check check) {
        ServerLine x = new ServerLine();
        x.servers(3);
        x.points(6);
        x.place(5, 50);
        x.start(0, 5);
        x.start(2, 5);
        Check.fill(x, 0, 5, 5, 0, 4);
        check.due("work: 50 is everyone's", x.work(5, 5, 5, 0), 50);
        check.due("work: 0 is served ahead of it", x.work(5, 5, 5, 3), 50);
        check.due("WORK", x.cost(2), 0);
        check.due("best()", x.best(), 0);
        Check.fill(x, 0, 0, 5, 0, 5);
        x.points(5);
        check.due("fewer points", x.best(), 0);
        x.points(6);
        x.place(5, 50);
        check.due("more points again", x.best(), 50);
        check.due("more points again", x.work(5, 5, 0, 4), 100);
    }

    @Says("what it was. BAD.")
    static void promise02AsManyAsBeforeChangesNothing(Check check) {
        ServerLine x = scene(true);
        long before = x.digest();
        check.due("points(3)", x.points(3), 3);
        check.due("digest()", x.digest(), before);
    }

    // ---- 3, place

    @Says({"PLACES of a line (0 to 1000; 0 at first; alike ones may be)", "The PLACE of a POINT: what it was. BAD."})
    static void promise03PlacesAre0To1000(Check check) {
        ServerLine x = new ServerLine();
        check.due("place(0, 1000)", x.place(0, 1000), 0);
        check.due("place(0, 0)", x.place(0, 0), 1000);
        check.due("place(0, 999)", x.place(0, 999), 0);
        check.due("place(0, 1)", x.place(0, 1), 999);
        bad(check, "place(0, -1)", y -> y.place(0, -1));
        bad(check, "place(0, 1001)", y -> y.place(0, 1001));
        bad(check, "place(0, least)", y -> y.place(0, LEAST));
        bad(check, "place(0, most)", y -> y.place(0, MOST));
    }

    @Says("BAD -2 (a number not as told, no such thing)")
    static void promise03NoSuchPointIsBad(Check check) {
        bad(check, "place(3, 0)", x -> x.place(3, 0));
        bad(check, "place(-1, 0)", x -> x.place(-1, 0));
        bad(check, "place(least, 0)", x -> x.place(LEAST, 0));
        bad(check, "place(most, 0)", x -> x.place(MOST, 0));
        ServerLine x = scene(true);
        check.due("the last point", x.place(2, 17), 16);
        x.points(6);
        check.due("the sixth point", x.place(5, 17), 0);
        check.due("no seventh point", x.place(6, 17), BAD);
    }

    @Says("0 at first; alike ones may be")
    static void promise03AlikePlacesMayBe(Check check) {
        ServerLine x = Check.line(Check.row(5, 9, 9), 1, 2);
        check.due("alike", x.place(2, 9), 9);
        Check.fill(x, 0, 2, 1, 2, 1);
        for (int rule = 0; rule < 5; rule++) {
            check.due("no way between them, rule " + rule, x.cost(rule), 0);
        }
        check.due("best()", x.best(), 0);
        check.due("of like ones the least", x.goes(0, 0), 0);
    }

    // ---- 4, servers

    @Says({"SERVERS 0 .. k - 1 (1 to 3; 1 at first)", "k SERVERS; new ones START at POINT 0: what it was. BAD."})
    static void promise04From1To3AndWhatItWas(Check check) {
        ServerLine x = new ServerLine();
        int was = 1;
        for (int k : Check.row(1, 2, 3, 3, 1, 3, 2)) {
            check.due("servers " + k, x.servers(k), was);
            check.due("count(1)", x.count(1), k);
            check.due("the last server", x.start(k - 1, 0), 0);
            check.due("the one behind it", x.start(k, 0), BAD);
            was = k;
        }
    }

    @Says({"SERVERS 0 .. k - 1 (1 to 3; 1 at first)", "what it was. BAD."})
    static void promise04TooFewOrTooManyAreBad(Check check) {
        bad(check, "servers(0)", x -> x.servers(0));
        bad(check, "servers(-1)", x -> x.servers(-1));
        bad(check, "servers(4)", x -> x.servers(4));
        bad(check, "servers(least)", x -> x.servers(LEAST));
        bad(check, "servers(most)", x -> x.servers(MOST));
    }

    @Says({"new ones START at POINT 0", "START at POINTS (0 at first)"})
    static void promise04NewOnesStartAtPoint0(Check check) {
        ServerLine x = Check.line(Check.row(4, 8), 1);
        x.servers(3);
        check.due("the old one", x.start(0, 1), 1);
        check.due("new 1", x.start(1, 1), 0);
        check.due("new 2", x.start(2, 1), 0);
    }

    @Says("new ones START at POINT 0")
    static void promise04ServersThatComeAgainAreNew(Check check) {
        ServerLine x = Check.line(Check.row(4, 8, 9), 1, 2, 2);
        x.servers(2);
        x.servers(3);
        check.due("old 1", x.start(1, 2), 2);
        check.due("new 2", x.start(2, 2), 0);
        x.servers(1);
        x.servers(3);
        check.due("old 0", x.start(0, 1), 1);
        check.due("new 1", x.start(1, 0), 0);
        check.due("new 2", x.start(2, 0), 0);
    }

    // ---- 5, start

    @Says({"Where a SERVER STARTS: what it was. BAD.", "no such thing"})
    static void promise05NoSuchServerIsBad(Check check) {
        bad(check, "start(2, 0)", x -> x.start(2, 0));
        bad(check, "start(-1, 0)", x -> x.start(-1, 0));
        bad(check, "start(least, 0)", x -> x.start(LEAST, 0));
        bad(check, "start(most, 0)", x -> x.start(MOST, 0));
        ServerLine x = scene(true);
        check.due("the last server", x.start(1, 1), 2);
        x.servers(3);
        check.due("the third server", x.start(2, 1), 0);
        check.due("no fourth server", x.start(3, 1), BAD);
    }

    @Says({"Where a SERVER STARTS: what it was. BAD.", "no such thing"})
    static void promise05NoSuchPointIsBad(Check check) {
        bad(check, "start(0, 3)", x -> x.start(0, 3));
        bad(check, "start(0, -1)", x -> x.start(0, -1));
        bad(check, "start(0, least)", x -> x.start(0, LEAST));
        bad(check, "start(0, most)", x -> x.start(0, MOST));
        ServerLine x = scene(true);
        check.due("the last point", x.start(0, 2), 0);
        check.due("the first point", x.start(0, 0), 2);
        x.points(6);
        check.due("the sixth point", x.start(0, 5), 0);
        check.due("no seventh point", x.start(0, 6), BAD);
    }

    @Says("START at POINTS (0 at first)")
    static void promise05AllMayStartAtOnePoint(Check check) {
        ServerLine x = Check.line(Check.row(3, 6), 1, 1, 1);
        x.sheet(0, 0, 0);
        for (int server = 0; server < 3; server++) {
            check.due("stands at the start", x.stands(0, server, 0), 6);
            check.due("start " + server, x.start(server, 1), 1);
        }
    }

    // ---- 6, factor

    @Says({"GUARDED by a FACTOR (told, 1 to 9; 2 at first)", "FACTOR: what it was. BAD."})
    static void promise06From1To9AndWhatItWas(Check check) {
        ServerLine x = new ServerLine();
        int was = 2;
        for (int f : Check.row(1, 2, 3, 4, 5, 6, 7, 8, 9, 9, 1)) {
            check.due("factor " + f, x.factor(f), was);
            check.due("count(2)", x.count(2), f);
            was = f;
        }
    }

    @Says({"GUARDED by a FACTOR (told, 1 to 9; 2 at first)", "FACTOR: what it was. BAD."})
    static void promise06TooSmallOrTooLargeIsBad(Check check) {
        bad(check, "factor(0)", x -> x.factor(0));
        bad(check, "factor(-1)", x -> x.factor(-1));
        bad(check, "factor(10)", x -> x.factor(10));
        bad(check, "factor(least)", x -> x.factor(LEAST));
        bad(check, "factor(most)", x -> x.factor(MOST));
    }
}
