/** The boundary cases of promises 7 to 10: what is asked, and what the rules do. */
final class AskedEdgesTest extends Edges {
    public static void main(String[] args) throws Exception {
        run(AskedEdgesTest.class, 7, 10);
    }

    // ---- 7, asked

    @Says({"How many are ASKED. NULL.", "NULL (SHEET 0 is LOST, where ASKED is wanted)"})
    static void promise07NullWhereSheet0IsLost(Check check) {
        nullWithoutRow(check, "asked()", x -> x.asked());
        ServerLine x = scene(true);
        x.lose(0);
        check.due("lost again", x.asked(), -11);
        x.sheet(0, 2, 1);
        check.due("there again", x.asked(), 1);
    }

    @Says("of 0 to 40 items (0 at first)")
    static void promise07NoItemsAndFortyItems(Check check) {
        ServerLine x = new ServerLine();
        for (int form = 0; form < 3; form++) {
            x.sheet(0, form, 0);
            check.due("no items", x.asked(), 0);
            x.sheet(0, form, 40);
            check.due("forty, each 0 at first", x.asked(), 40);
        }
    }

    @Says("the items of SHEET 0 that are 0 to N - 1, in order; others are LOST")
    static void promise07ItemsBelow0OrFromNOnAreLost(Check check) {
        ServerLine x = new ServerLine();
        for (int n = 1; n <= 6; n++) {
            x.points(n);
            Check.fill(x, 0, -1, 0, n - 1, n, LEAST, MOST);
            check.due("of " + n + " points", x.asked(), 2);
        }
        Check.fill(x, 0, -1, 6, LEAST, MOST);
        check.due("all are LOST", x.asked(), 0);
        check.due("and cost nothing", x.cost(0), 0);
        check.due("no finding", x.count(3), 0);
    }

    @Says("the items of SHEET 0 that are 0 to N - 1, in order; others are LOST")
    static void promise07ItemsAreLostAndFoundAsPointsGoAndCome(Check check) {
        ServerLine x = new ServerLine();
        Check.fill(x, 0, 0, 1, 2, 3, 4, 5, 6);
        for (int n : Check.row(1, 2, 3, 4, 5, 6, 5, 1, 6)) {
            x.points(n);
            check.due("of " + n + " points", x.asked(), n);
        }
    }

    @Says("ASKED is a row of POINTS: the items of SHEET 0 that are 0 to N - 1, in order; others are LOST")
    static void promise07InOrder(Check check) {
        ServerLine x = Check.line(Check.row(0, 10, 30), 0);
        Check.fill(x, 0, 2, -1, 1, 3, 0, 2);
        int[] want = {0, 30, 10, 0, 30};
        for (int t = 0; t < want.length; t++) {
            check.due("behind " + t, x.stands(0, 0, t), want[t]);
        }
    }

    @Says("0 bytes, 1 shorts, 2 ints")
    static void promise07ItemsAreAsTheirFormKeepsThem(Check check) {
        ServerLine x = new ServerLine();
        Check.fillForm(x, 0, 0, 256, 255, -256, 128);
        check.due("bytes: 0, -1, 0, -128", x.asked(), 2);
        Check.fillForm(x, 0, 1, 256, 65536, 65535, -65536);
        check.due("shorts: 256, 0, -1, 0", x.asked(), 2);
        Check.fillForm(x, 0, 2, 256, 65536, 0, LEAST);
        check.due("ints: 0 alone", x.asked(), 1);
    }

    // ---- 8, cost

    @Says("COST of a RULE (0 to 4). BAD; NULL.")
    static void promise08RulesAre0To4(Check check) {
        bad(check, "cost(-1)", x -> x.cost(-1));
        bad(check, "cost(5)", x -> x.cost(5));
        bad(check, "cost(least)", x -> x.cost(LEAST));
        bad(check, "cost(most)", x -> x.cost(MOST));
        // 10 is served from 16, then 16 from 10; BOTH lets 0 come to 6 and go back as well.
        ServerLine x = scene(true);
        x.lose(1);
        int[] want = {12, 24, 12, 12, 12};
        for (int rule = 0; rule < 5; rule++) {
            check.due("rule " + rule, x.cost(rule), want[rule]);
        }
    }

    @Says("COST of a RULE (0 to 4). BAD; NULL.")
    static void promise08NullForEachRule(Check check) {
        for (int rule = 0; rule < 5; rule++) {
            int r = rule;
            nullWithoutRow(check, "cost " + r, x -> x.cost(r));
        }
    }

    @Says("COST is all the ways together")
    static void promise08NothingAskedCostsNothing(Check check) {
        ServerLine x = Check.line(Check.row(0, 10), 0, 1);
        x.sheet(0, 0, 0);
        for (int rule = 0; rule < 5; rule++) {
            check.due("no items, rule " + rule, x.cost(rule), 0);
        }
        Check.fill(x, 0, -1, 2);
        for (int rule = 0; rule < 5; rule++) {
            check.due("all are LOST, rule " + rule, x.cost(rule), 0);
        }
    }

    @Says({"COST is all the ways together", "PLACES of a line (0 to 1000"})
    static void promise08FortyWaysFromEndToEnd(Check check) {
        ServerLine x = Check.line(Check.row(0, 1000), 0);
        Check.fill(x, 0, repeated(40, 1, 0));
        for (int rule = 0; rule < 5; rule++) {
            check.due("one server, rule " + rule, x.cost(rule), 40000);
        }
        check.due("best()", x.best(), 40000);
        ServerLine y = Check.line(Check.row(0, 1000), 0, 1);
        Check.fill(y, 0, repeated(40, 0, 1));
        Check.fill(y, 1, repeated(40, 1));
        y.factor(9);
        check.due("each hint is wrong", y.cost(3), 40000);
        check.due("BOTH goes nowhere", y.cost(1), 0);
        check.due("and is trusted at once", y.cost(4), 0);
    }

    @Says("go toward it both as far as the lesser one of their ways")
    static void promise08BothWaysOfBothCount(Check check) {
        ServerLine x = Check.line(Check.row(0, 20, 10, 3), 0, 1);
        Check.fill(x, 0, 2);
        check.due("like ways", x.cost(1), 20);
        Check.fill(x, 0, 3);
        check.due("the lesser one twice", x.cost(1), 6);
    }

    @Says({"then its SERVERS go, whoever goes where, to where those stand that it TRUSTS, by the least sum of ways",
        "that is its COST"})
    static void promise08GuardedGoesWhoeverGoesWhere(Check check) {
        ServerLine x = Check.line(Check.row(0, 10, 20), 0, 1);
        Check.fill(x, 0, 2, 0);
        Check.fill(x, 1, 0, 1);
        check.due("HINTED: 20, then 10", x.cost(3), 30);
        check.due("BOTH: 10, then none", x.cost(1), 10);
        check.due("twice as dear is not more", x.trusts(1), 3);
        check.due("30 is more than twice 10", x.trusts(2), 1);
        // From 20 and 10 to 0 and 20: the one at 20 stays, the other goes 10.
        check.due("20, then 10 for the change", x.cost(4), 30);
    }

    // HINTED lets 0, 1, 2 go round: they stand at 100, 0, 10; BOTH stands at 0, 10, 100.
    @Says("its SERVERS go, whoever goes where, to where those stand that it TRUSTS, by the least sum of ways")
    static void promise08GuardedWithThreeServers(Check check) {
        ServerLine x = Check.line(Check.row(0, 10, 40, 100), 0, 1, 2);
        Check.fill(x, 0, 3, 0, 1, 1, 1);
        Check.fill(x, 1, 0, 1, 2, 0, 2);
        check.due("HINTED: 100, 10, 30, 90, none", x.cost(3), 230);
        check.due("BOTH: 60", x.cost(1), 60);
        x.factor(3);
        check.due("140 is less than 180", x.trusts(3), 3);
        check.due("230 is more", x.trusts(4), 1);
        // At 100, 0, 10 till then: nobody goes at the change.
        check.due("140, and no way for the change", x.cost(4), 140);
    }

    // ---- 9, stands

    @Says("The PLACE of a SERVER of RULE 0 to 3 behind the first t that are ASKED. BAD; NULL.")
    static void promise09RulesAre0To3(Check check) {
        bad(check, "stands(-1, 0, 0)", x -> x.stands(-1, 0, 0));
        bad(check, "stands(4, 0, 0)", x -> x.stands(4, 0, 0));
        bad(check, "stands(least, 0, 0)", x -> x.stands(LEAST, 0, 0));
        bad(check, "stands(most, 0, 0)", x -> x.stands(MOST, 0, 0));
        ServerLine x = scene(true);
        x.lose(1);
        int[] first = {0, 6, 0, 0};
        for (int rule = 0; rule < 4; rule++) {
            check.due("rule " + rule, x.stands(rule, 0, 1), first[rule]);
            check.due("rule " + rule, x.stands(rule, 1, 1), 10);
        }
    }

    @Says("The PLACE of a SERVER of RULE 0 to 3 behind the first t that are ASKED. BAD; NULL.")
    static void promise09NoSuchServerIsBad(Check check) {
        bad(check, "stands(0, 2, 0)", x -> x.stands(0, 2, 0));
        bad(check, "stands(0, -1, 0)", x -> x.stands(0, -1, 0));
        bad(check, "stands(0, least, 0)", x -> x.stands(0, LEAST, 0));
        bad(check, "stands(0, most, 0)", x -> x.stands(0, MOST, 0));
        ServerLine x = scene(true);
        x.servers(3);
        check.due("the third", x.stands(0, 2, 0), 0);
        check.due("no fourth", x.stands(0, 3, 0), BAD);
    }

    @Says("(The first t that are ASKED, t 0 to 40: all, if there are fewer.)")
    static void promise09TIs0To40(Check check) {
        bad(check, "stands(0, 0, -1)", x -> x.stands(0, 0, -1));
        bad(check, "stands(0, 0, 41)", x -> x.stands(0, 0, 41));
        bad(check, "stands(0, 0, least)", x -> x.stands(0, 0, LEAST));
        bad(check, "stands(0, 0, most)", x -> x.stands(0, 0, MOST));
        ServerLine x = Check.line(Check.row(0, 10), 0);
        Check.fill(x, 0, repeated(40, 1, 0));
        for (int rule = 0; rule < 4; rule++) {
            check.due("behind none", x.stands(rule, 0, 0), 0);
            check.due("behind 39", x.stands(rule, 0, 39), 10);
            check.due("behind all 40", x.stands(rule, 0, 40), 0);
        }
    }

    @Says("(The first t that are ASKED, t 0 to 40: all, if there are fewer.)")
    static void promise09AllIfThereAreFewer(Check check) {
        ServerLine x = Check.line(Check.row(0, 10, 20), 0);
        Check.fill(x, 0, 1, 9, 2, -1);
        for (int rule = 0; rule < 4; rule++) {
            check.due("behind 1", x.stands(rule, 0, 1), 10);
            check.due("behind 2, LOST ones not counted", x.stands(rule, 0, 2), 20);
            check.due("behind 3", x.stands(rule, 0, 3), 20);
            check.due("behind 40", x.stands(rule, 0, 40), 20);
        }
        x.sheet(0, 0, 0);
        check.due("nothing asked", x.stands(1, 0, 40), 0);
    }

    @Says("The PLACE of a SERVER of RULE 0 to 3 behind the first t that are ASKED. BAD; NULL.")
    static void promise09Null(Check check) {
        for (int rule = 0; rule < 4; rule++) {
            int r = rule;
            nullWithoutRow(check, "stands " + r, x -> x.stands(r, 1, 0));
            nullWithoutRow(check, "stands " + r, x -> x.stands(r, 0, 40));
        }
    }

    @Says("A RULE lets at each POINT that is ASKED SERVERS move, so that one is at its PLACE")
    static void promise09OneIsAtThePlaceThatIsAsked(Check check) {
        int[] places = {0, 1000, 400, 401, 700, 400};
        int[] asked = {2, 1, 3, 5, 0, 4, 4, 2, 1, 0};
        for (int k = 1; k <= 3; k++) {
            ServerLine x = Check.line(places, repeated(k, 1, 0, 4));
            Check.fill(x, 0, asked);
            Check.fill(x, 1, k - 1, 0, -1, k);
            for (int rule = 0; rule < 4; rule++) {
                for (int t = 1; t <= asked.length; t++) {
                    int there = 0;
                    for (int server = 0; server < k; server++) {
                        there += x.stands(rule, server, t) == places[asked[t - 1]] ? 1 : 0;
                    }
                    check.due("rule " + rule + " behind " + t, Math.min(there, 1), 1);
                }
            }
        }
    }

    private static void stand(Check check, ServerLine x, int rule, int t, int... want) {
        for (int server = 0; server < want.length; server++) {
            String call = "stands(" + rule + ", " + server + ", " + t + ")";
            check.due(call, x.stands(rule, server, t), want[server]);
        }
    }

    @Says("if one is there already none goes")
    static void promise09BothWhereOneIsThereAlready(Check check) {
        ServerLine x = Check.line(Check.row(0, 10, 20), 0, 1, 2);
        for (int point = 0; point < 3; point++) {
            Check.fill(x, 0, point);
            stand(check, x, 1, 1, 0, 10, 20);
        }
        check.due("cost(1)", x.cost(1), 0);
        ServerLine y = Check.line(Check.row(0, 10, 20, 10), 0, 1, 2);
        Check.fill(y, 0, 3);
        stand(check, y, 1, 1, 0, 10, 20);
    }

    @Says("With SERVERS on both sides the nearest on either side")
    static void promise09BothLetsTheNearestOnEitherSideGo(Check check) {
        ServerLine x = Check.line(Check.row(0, 4, 20, 30, 10), 0, 1, 2);
        Check.fill(x, 0, 4);
        stand(check, x, 1, 1, 0, 10, 14);
        x.start(0, 3);
        stand(check, x, 1, 1, 30, 10, 14);
    }

    @Says("as far as the lesser one of their ways")
    static void promise09BothWithLikeWaysMeetThere(Check check) {
        ServerLine x = Check.line(Check.row(0, 10, 20), 0, 2);
        Check.fill(x, 0, 1, 0);
        stand(check, x, 1, 1, 10, 10);
        stand(check, x, 1, 2, 0, 10);
    }

    @Says("as far as the lesser one of their ways")
    static void promise09BothWithTheLesserWayOnEitherSide(Check check) {
        ServerLine x = Check.line(Check.row(0, 20, 1, 19), 0, 1);
        Check.fill(x, 0, 2);
        stand(check, x, 1, 1, 1, 19);
        Check.fill(x, 0, 3);
        stand(check, x, 1, 1, 1, 19);
        check.due("cost(1)", x.cost(1), 2);
    }

    @Says("With SERVERS on both sides the nearest on either side (of like ones the least SERVER)")
    static void promise09BothOfLikeOnesBelowTheLeast(Check check) {
        ServerLine x = Check.line(Check.row(0, 10, 4), 0, 0, 1);
        Check.fill(x, 0, 2);
        stand(check, x, 1, 1, 4, 0, 6);
        ServerLine y = Check.line(Check.row(0, 10, 4), 1, 0, 0);
        Check.fill(y, 0, 2);
        stand(check, y, 1, 1, 6, 4, 0);
    }

    @Says("With SERVERS on both sides the nearest on either side (of like ones the least SERVER)")
    static void promise09BothOfLikeOnesAboveTheLeast(Check check) {
        ServerLine x = Check.line(Check.row(0, 20, 15), 1, 1, 0);
        Check.fill(x, 0, 2);
        stand(check, x, 1, 1, 15, 20, 5);
        ServerLine y = Check.line(Check.row(0, 20, 15), 0, 1, 1);
        Check.fill(y, 0, 2);
        stand(check, y, 1, 1, 5, 15, 20);
    }

    @Says("with SERVERS on one side alone the nearest (of like ones the least) goes there")
    static void promise09BothWithServersOnOneSideAlone(Check check) {
        ServerLine x = Check.line(Check.row(10, 15, 30, 0), 0, 1);
        Check.fill(x, 0, 2);
        stand(check, x, 1, 1, 10, 30);
        check.due("15 alone", x.cost(1), 15);
        Check.fill(x, 0, 3);
        stand(check, x, 1, 1, 0, 15);
        check.due("10 alone", x.cost(1), 10);
        x.servers(1);
        Check.fill(x, 0, 3, 2);
        stand(check, x, 1, 1, 0);
        stand(check, x, 1, 2, 30);
    }

    @Says("with SERVERS on one side alone the nearest (of like ones the least) goes there")
    static void promise09BothOnOneSideOfLikeOnesTheLeast(Check check) {
        ServerLine x = Check.line(Check.row(10, 12, 30, 0), 0, 1, 1);
        Check.fill(x, 0, 2);
        stand(check, x, 1, 1, 10, 30, 12);
        ServerLine y = Check.line(Check.row(10, 12, 30, 0), 1, 0, 0);
        Check.fill(y, 0, 3);
        stand(check, y, 1, 1, 12, 0, 10);
    }

    @Says("(So they may stand where no POINT is.)")
    static void promise09BothMayStandWhereNoPointIs(Check check) {
        ServerLine x = Check.line(Check.row(0, 16, 10, 7), 0, 1);
        Check.fill(x, 0, 2, 3);
        stand(check, x, 1, 1, 6, 10);
        stand(check, x, 1, 2, 7, 9);
        check.due("cost(1)", x.cost(1), 12 + 2);
    }

    // ---- 10, goes

    @Says("Which SERVER goes at the t-th (0 to 39) that is ASKED by RULE 0, 2, 3")
    static void promise10RulesAre0And2And3(Check check) {
        for (int rule : Check.row(-1, 1, 4, 5, LEAST, MOST)) {
            bad(check, "goes " + rule, x -> x.goes(rule, 0));
        }
        ServerLine x = scene(true);
        for (int rule : Check.row(0, 2, 3)) {
            check.due("goes " + rule, x.goes(rule, 0), 1);
        }
    }

    @Says("Which SERVER goes at the t-th (0 to 39) that is ASKED by RULE 0, 2, 3")
    static void promise10TIs0To39(Check check) {
        for (int t : Check.row(-1, 40, 41, LEAST, MOST)) {
            bad(check, "goes at " + t, x -> x.goes(0, t));
        }
        ServerLine x = Check.line(Check.row(0, 10), 0, 1);
        Check.fill(x, 0, repeated(40, 0, 1));
        for (int rule : Check.row(0, 2, 3)) {
            check.due("the first", x.goes(rule, 0), 0);
            check.due("the last but one", x.goes(rule, 38), 0);
            check.due("the last of 40", x.goes(rule, 39), 1);
        }
    }

    @Says("NONE: there is none such. BAD; NULL.")
    static void promise10NoneWhereThereIsNoneSuch(Check check) {
        ServerLine x = Check.line(Check.row(0, 10), 0, 1);
        Check.fill(x, 0, 1, 2, 0);
        for (int rule : Check.row(0, 2, 3)) {
            check.due("the last, LOST ones not counted", x.goes(rule, 1), 0);
            check.due("the first that is none", x.goes(rule, 2), NONE);
            check.due("the 39th", x.goes(rule, 39), NONE);
        }
        Check.fill(x, 0, repeated(39, 1));
        check.due("one fewer than 40", x.goes(0, 38), 1);
        check.due("one fewer than 40", x.goes(0, 39), NONE);
        x.sheet(0, 0, 0);
        check.due("nothing asked", x.goes(0, 0), NONE);
    }

    @Says("NONE: there is none such. BAD; NULL.")
    static void promise10Null(Check check) {
        for (int rule : Check.row(0, 2, 3)) {
            nullWithoutRow(check, "goes " + rule, x -> x.goes(rule, 0));
            nullWithoutRow(check, "goes " + rule, x -> x.goes(rule, 39));
        }
    }

    @Says("the one with the least way goes (of like ones the least SERVER)")
    static void promise10NearestOfLikeOnesTheLeast(Check check) {
        ServerLine x = Check.line(Check.row(0, 20, 10, 100), 0, 1);
        Check.fill(x, 0, 2);
        check.due("from either side", x.goes(0, 0), 0);
        x.start(0, 1);
        x.start(1, 0);
        check.due("from either side, the other way round", x.goes(0, 0), 0);
        ServerLine y = Check.line(Check.row(0, 20, 10, 100), 3, 1, 0);
        Check.fill(y, 0, 2);
        check.due("1 and 2 are alike", y.goes(0, 0), 1);
        ServerLine z = Check.line(Check.row(0, 20, 10, 9), 3, 3, 2);
        Check.fill(z, 0, 2);
        check.due("one is there already", z.goes(0, 0), 2);
    }

    @Says({"The SERVER goes with which W (as it becomes) of the STANDING behind it and its way are least together",
        "of like ones the least SERVER."})
    static void promise10WorkOfLikeOnesTheLeast(Check check) {
        ServerLine x = Check.line(Check.row(0, 20, 10, 100), 0, 1);
        Check.fill(x, 0, 2);
        check.due("10 and 10, each with W 10", x.goes(2, 0), 0);
        ServerLine y = Check.line(Check.row(0, 20, 10, 100), 3, 0, 1);
        Check.fill(y, 0, 2);
        check.due("1 and 2 are alike", y.goes(2, 0), 1);
        ServerLine z = Check.line(Check.row(0, 0, 5), 1, 0, 1);
        Check.fill(z, 0, 0, 2, 2);
        check.due("all are alike", z.goes(2, 0), 0);
        check.due("all are alike", z.goes(2, 1), 0);
        check.due("it is there now", z.goes(2, 2), 0);
    }

    // W of (10, 12) is 8: the far one is 16 together, the near one 2n + 2 for the n-th time.
    @Says("The SERVER goes with which W (as it becomes) of the STANDING behind it and its way are least together")
    static void promise10WorkLetsTheFarOneGoWhenItIsLess(Check check) {
        ServerLine x = Check.line(Check.row(0, 10, 12, 20), 1, 3);
        Check.fill(x, 0, repeated(10, 2, 1));
        check.due("7th time, alike", x.goes(2, 6), 0);
        check.due("8th time, 12 is near alone", x.goes(2, 7), 0);
        check.due("9th time, less", x.goes(2, 8), 1);
        check.due("10th time", x.goes(2, 9), 0);
    }

    @Says("HINT t (of the t-th that is ASKED, from 0, LOST ones not counted) is item t of SHEET 1")
    static void promise10HintsCountNoLostOnes(Check check) {
        ServerLine x = Check.line(Check.row(0, 10, 20), 0, 2);
        Check.fill(x, 0, -1, 0, 3, 2, 9, 2);
        Check.fill(x, 1, 1, 0, 0, 1, 1, 1);
        check.due("hint 0 is for the first that is ASKED", x.goes(3, 0), 1);
        check.due("hint 1", x.goes(3, 1), 0);
        check.due("hint 2", x.goes(3, 2), 0);
        check.due("no fourth", x.goes(3, 3), NONE);
    }

    @Says({"if it is there and is 0 to k - 1; else there is none",
        "HINTED: the SERVER of the HINT goes; where there is none, as NEAREST"})
    static void promise10HintsAre0ToKMinus1(Check check) {
        for (int k = 1; k <= 3; k++) {
            ServerLine x = Check.line(Check.row(0, 10), repeated(k, 1));
            Check.fill(x, 0, 1);
            Check.fill(x, 1, k - 1);
            check.due("the last server of " + k, x.goes(3, 0), k - 1);
            for (int none : Check.row(k, -1, LEAST, MOST)) {
                x.put(1, 2, 0, none);
                check.due("no hint, as NEAREST", x.goes(3, 0), 0);
            }
        }
    }

    @Says({"if it is there and is 0 to k - 1; else there is none", "where there is none, as NEAREST"})
    static void promise10HintsEndWithSheet1(Check check) {
        ServerLine x = Check.line(Check.row(0, 10), 0, 0);
        Check.fill(x, 0, 0, 0, 0);
        check.due("SHEET 1 is LOST", x.goes(3, 0), 0);
        x.sheet(1, 0, 0);
        check.due("SHEET 1 has no items", x.goes(3, 0), 0);
        Check.fill(x, 1, 1, 1);
        check.due("its last item", x.goes(3, 1), 1);
        check.due("behind its last item", x.goes(3, 2), 0);
        x.lose(1);
        check.due("SHEET 1 is LOST again", x.goes(3, 1), 0);
        check.due("no finding", x.count(3), 0);
        x.sheet(1, 2, 3);
        check.due("a new SHEET 1 has no old items", x.goes(3, 1), 0);
    }

    @Says("HINT t (of the t-th that is ASKED, from 0, LOST ones not counted) is item t of SHEET 1")
    static void promise10FortyHints(Check check) {
        ServerLine x = Check.line(Check.row(0, 10), 0, 0, 0);
        Check.fill(x, 0, repeated(40, 0));
        Check.fillForm(x, 1, 1, repeated(40, 2, 1, 0, 1));
        check.due("hint 0", x.goes(3, 0), 2);
        check.due("hint 38", x.goes(3, 38), 0);
        check.due("hint 39", x.goes(3, 39), 1);
    }
}
