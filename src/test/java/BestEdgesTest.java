/** The boundary cases of promises 11 to 15: the best ahead, W and whom the guard trusts. */
final class BestEdgesTest extends Edges {
    private static final int[][] ORDERS = {{0, 1, 2}, {0, 2, 1}, {1, 0, 2}, {1, 2, 0}, {2, 0, 1}, {2, 1, 0}};

    public static void main(String[] args) throws Exception {
        run(BestEdgesTest.class, 11, 15);
    }

    // ---- 11, best

    @Says("THE BEST. NULL.")
    static void promise11Null(Check check) {
        nullWithoutRow(check, "best()", x -> x.best());
    }

    @Says("the least COST of all ways to let a SERVER go to each POINT that is ASKED")
    static void promise11NothingAskedIs0(Check check) {
        ServerLine x = Check.line(Check.row(0, 10), 0, 1);
        x.sheet(0, 0, 0);
        check.due("no items", x.best(), 0);
        Check.fill(x, 0, -1, 2);
        check.due("all are LOST", x.best(), 0);
    }

    // The far one has 8 to go; each time that the near one goes it has 2.
    @Says("the least COST of all ways to let a SERVER go to each POINT that is ASKED")
    static void promise11TheFarOneWhereItIsLess(Check check) {
        for (int many : Check.row(1, 2, 3, 4, 5, 6, 39, 40)) {
            ServerLine x = Check.line(Check.row(10, 12, 20), 0, 2);
            Check.fill(x, 0, repeated(many, 1, 0));
            check.due("asked " + many + " times", x.best(), Math.min(2 * many, 8));
        }
    }

    @Says("the least COST of all ways to let a SERVER go to each POINT that is ASKED")
    static void promise11FortyWithOneServerForEachPoint(Check check) {
        ServerLine x = Check.line(Check.row(0, 500, 1000), 2, 2, 2);
        Check.fill(x, 0, repeated(40, 0, 1, 2));
        check.due("three", x.best(), 1500);
        x.servers(2);
        // One stays at 1000; the other goes to 0, and then thirteen times to 500 and back.
        check.due("two", x.best(), 1000 + 13 * 1000);
        x.servers(1);
        check.due("one", x.best(), 14 * 1000 + 13 * 500 + 13 * 500);
    }

    @Says("the least COST of all ways to let a SERVER go to each POINT that is ASKED")
    static void promise11AShortRowBehindALongOne(Check check) {
        for (int k = 1; k <= 3; k++) {
            ServerLine x = Check.line(Check.row(0, 10), repeated(k, 0));
            Check.fill(x, 0, 0, 0, 1, 0, 1);
            check.due("five", x.best(), k == 1 ? 30 : 10);
            Check.fill(x, 0, 0, 0);
            check.due("two", x.best(), 0);
            x.sheet(0, 0, 0);
            check.due("none", x.best(), 0);
        }
    }

    // ---- 12, way

    @Says("Which SERVER goes at the t-th (0 to 39) on A BEST WAY; NONE: there is none such. BAD; NULL.")
    static void promise12TIs0To39(Check check) {
        for (int t : Check.row(-1, 40, 41, LEAST, MOST)) {
            bad(check, "way " + t, x -> x.way(t));
        }
        ServerLine x = Check.line(Check.row(0, 10), 0, 1);
        Check.fill(x, 0, repeated(40, 0, 1));
        for (int t : Check.row(0, 1, 2, 37, 38, 39)) {
            check.due("way " + t, x.way(t), t % 2);
        }
    }

    @Says("Which SERVER goes at the t-th (0 to 39) on A BEST WAY; NONE: there is none such. BAD; NULL.")
    static void promise12NoneWhereThereIsNoneSuch(Check check) {
        ServerLine x = Check.line(Check.row(0, 10), 0, 1);
        Check.fill(x, 0, 2, 1, -1, 0, 2);
        check.due("the last", x.way(1), 0);
        check.due("the first that is none", x.way(2), NONE);
        check.due("the 39th", x.way(39), NONE);
        Check.fill(x, 0, repeated(39, 1));
        check.due("one fewer than 40", x.way(38), 1);
        check.due("one fewer than 40", x.way(39), NONE);
        x.sheet(0, 0, 0);
        check.due("nothing asked", x.way(0), NONE);
    }

    @Says("Which SERVER goes at the t-th (0 to 39) on A BEST WAY; NONE: there is none such. BAD; NULL.")
    static void promise12Null(Check check) {
        nullWithoutRow(check, "way(0)", x -> x.way(0));
        nullWithoutRow(check, "way(39)", x -> x.way(39));
    }

    private static void ways(Check check, ServerLine x, int... want) {
        for (int t = 0; t < want.length; t++) {
            check.due("way " + t, x.way(t), want[t]);
        }
        check.due("none behind", x.way(want.length), NONE);
    }

    @Says("whose row of SERVERS that go is the least, the first compared first")
    static void promise12OfLikeRowsTheLeast(Check check) {
        ServerLine x = Check.line(Check.row(0, 10, 20), 0, 0);
        Check.fill(x, 0, 1, 0);
        // 0 1 and 1 0 are 10 each; 0 1 is less, as the first is compared first.
        ways(check, x, 0, 1);
        Check.fill(x, 0, 0, 1, 0);
        ways(check, x, 0, 0, 1);
        ServerLine y = Check.line(Check.row(0, 10, 20), 0, 1);
        Check.fill(y, 0, 2, 1);
        // 0 1, 1 0 and 1 1 are 20 each.
        ways(check, y, 0, 1);
        ServerLine z = Check.line(Check.row(0, 10, 20), 1, 2, 0);
        Check.fill(z, 0, 0, 2, 1);
        ways(check, z, 2, 1, 0);
    }

    // 10 last is 0's, as of like rows it is the least; had 0 still to be served, it would be 1's.
    @Says("whose row of SERVERS that go is the least, the first compared first")
    static void promise12WhatIsStillToComeDecides(Check check) {
        ServerLine x = Check.line(Check.row(0, 10, 20), 0, 2);
        Check.fill(x, 0, 2, 0, 1);
        ways(check, x, 1, 0, 0);
        Check.fill(x, 0, 2, 0, 1, 0);
        ways(check, x, 1, 0, 1, 0);
        Check.fill(x, 0, 1, 0, 2, 1);
        ways(check, x, 0, 0, 1, 0);
    }

    @Says("(one SERVER goes to each POINT, perhaps no way)")
    static void promise12OneGoesPerhapsNoWay(Check check) {
        ServerLine x = Check.line(Check.row(5, 5, 9), 2, 1, 0);
        Check.fill(x, 0, 0, 1, 2, 2, 0);
        ways(check, x, 1, 1, 0, 0, 1);
        check.due("best()", x.best(), 0);
    }

    // ---- 13, share

    @Says("COST of a RULE (0 to 4) by THE BEST in hundredths, rounded down. BAD; NULL; NOT: THE BEST is 0.")
    static void promise13RulesAre0To4(Check check) {
        for (int rule : Check.row(-1, 5, LEAST, MOST)) {
            bad(check, "share " + rule, x -> x.share(rule));
        }
        ServerLine x = scene(true);
        int[] want = {100, 200, 100, 100, 100};
        for (int rule = 0; rule < 5; rule++) {
            check.due("share " + rule, x.share(rule), want[rule]);
        }
    }

    @Says({"NOT: THE BEST is 0.", "Refusals, the first that fits: BAD -2"})
    static void promise13NullAheadOfNot(Check check) {
        for (int rule = 0; rule < 5; rule++) {
            int r = rule;
            nullWithoutRow(check, "share " + r, x -> x.share(r));
        }
        check.due("a new object", new ServerLine().share(0), -11);
        check.due("a new object", new ServerLine().share(5), BAD);
    }

    @Says("NOT: THE BEST is 0.")
    static void promise13NotWhereTheBestIs0(Check check) {
        ServerLine x = Check.line(Check.row(0, 10), 0, 1);
        x.sheet(0, 0, 0);
        check.due("nothing asked", x.share(0), NOT);
        Check.fill(x, 0, 0);
        Check.fill(x, 1, 1);
        long before = x.digest();
        check.due("HINTED costs 10", x.cost(3), 10);
        for (int rule = 0; rule < 5; rule++) {
            check.due("NOT all the same, rule " + rule, x.share(rule), NOT);
        }
        check.due("BAD ahead of NOT", x.share(5), BAD);
        check.due("no finding", x.count(3), 0);
        check.due("nothing changes", x.digest(), before);
    }

    @Says("in hundredths, rounded down")
    static void promise13RoundedDown(Check check) {
        // NEAREST goes to 334 and back; the best lets the far one go 666 to it.
        ServerLine x = Check.line(Check.row(0, 1000, 334), 0, 1);
        Check.fill(x, 0, 2, 0);
        check.due("668 by 666", x.share(0), 100);
        ServerLine y = Check.line(Check.row(0, 299, 199), 0, 1);
        Check.fill(y, 0, 2, 1, 2, 1, 2, 1, 2);
        Check.fill(y, 1, 1, 1, 1, 1, 1, 1, 0);
        check.due("799 by 199", y.cost(3), 799);
        check.due("799 by 199", y.best(), 199);
        check.due("401.5..", y.share(3), 401);
        ServerLine z = Check.line(Check.row(0, 100, 33), 0, 1);
        Check.fill(z, 0, 2, 2);
        Check.fill(z, 1, 1, 0);
        check.due("100 by 33", z.share(3), 303);
    }

    @Says("in hundredths, rounded down")
    static void promise13TheBestIs1(Check check) {
        ServerLine x = Check.line(Check.row(0, 1, 1000), 0);
        Check.fill(x, 0, 1);
        for (int rule = 0; rule < 5; rule++) {
            check.due("1 by 1", x.share(rule), 100);
        }
        ServerLine y = Check.line(Check.row(0, 1, 1000), 0, 2);
        int[] asked = repeated(40, 0, 2);
        asked[39] = 1;
        Check.fill(y, 0, asked);
        Check.fill(y, 1, repeated(40, 1));
        check.due("39001", y.cost(3), 39001);
        check.due("1", y.best(), 1);
        check.due("the greatest of all", y.share(3), 3900100);
    }

    // ---- 14, work

    @Says("W of a STANDING (POINTS of SERVERS 0, 1, 2; those of SERVERS that are not there may be 0 to 5)")
    static void promise14PointsOfServersThatAreThere(Check check) {
        bad(check, "work(3, 0, 0, 0)", x -> x.work(3, 0, 0, 0));
        bad(check, "work(-1, 0, 0, 0)", x -> x.work(-1, 0, 0, 0));
        bad(check, "work(0, 3, 0, 0)", x -> x.work(0, 3, 0, 0));
        bad(check, "work(0, -1, 0, 0)", x -> x.work(0, -1, 0, 0));
        bad(check, "work(least, 0, 0, 0)", x -> x.work(LEAST, 0, 0, 0));
        bad(check, "work(0, most, 0, 0)", x -> x.work(0, MOST, 0, 0));
        ServerLine x = scene(true);
        check.due("the last point", x.work(2, 2, 0, 0), 16);
        x.servers(3);
        check.due("three", x.work(2, 2, 2, 0), 32);
        check.due("three, beyond", x.work(2, 2, 3, 0), BAD);
        check.due("three, below", x.work(2, 2, -1, 0), BAD);
        x.points(6);
        check.due("the sixth point", x.work(5, 5, 5, 0), 16);
        check.due("no seventh point", x.work(6, 5, 5, 0), BAD);
    }

    @Says("those of SERVERS that are not there may be 0 to 5")
    static void promise14PointsOfServersThatAreNotThere(Check check) {
        bad(check, "work(0, 0, 6, 0)", x -> x.work(0, 0, 6, 0));
        bad(check, "work(0, 0, -1, 0)", x -> x.work(0, 0, -1, 0));
        bad(check, "work(0, 0, least, 0)", x -> x.work(0, 0, LEAST, 0));
        bad(check, "work(0, 0, most, 0)", x -> x.work(0, 0, MOST, 0));
        ServerLine two = scene(true);
        ServerLine one = new ServerLine();
        one.sheet(0, 0, 3);
        for (int free = 0; free <= 5; free++) {
            check.due("two servers, " + free, two.work(0, 0, free, 1), two.work(0, 0, 0, 1));
            check.due("one server, " + free, one.work(0, free, 5 - free, 3), 0);
        }
        check.due("one server, 6", one.work(0, 6, 0, 0), BAD);
        check.due("one server, -1", one.work(0, -1, 0, 0), BAD);
        check.due("one server, 6", one.work(0, 0, 6, 0), BAD);
        check.due("one server, -1", one.work(0, 0, -1, 0), BAD);
        check.due("one server is there", one.work(1, 0, 0, 0), BAD);
    }

    // The first point is not at place 0, so that a server that is not there could be seen to count.
    @Says("those of SERVERS that are not there may be 0 to 5")
    static void promise14ServersThatAreNotThereCountForNothing(Check check) {
        ServerLine x = Check.line(Check.row(500, 509, 1000), 1, 2, 2);
        Check.fill(x, 0, 0, 2);
        check.due("three", x.work(0, 0, 0, 0), 9 + 500 + 500);
        x.servers(2);
        for (int free = 0; free <= 5; free++) {
            check.due("two, at first", x.work(0, 0, free, 0), 9 + 500);
            check.due("two, at first", x.work(2, 1, free, 0), 0);
            check.due("two, behind both", x.work(2, 0, free, 2), 9);
        }
        x.servers(1);
        for (int free = 0; free <= 5; free++) {
            check.due("one, at first", x.work(0, free, 5 - free, 0), 9);
            check.due("one, at first", x.work(2, free, 5 - free, 0), 491);
            check.due("one, behind both", x.work(1, free, 5 - free, 2), 9 + 500 + 491);
        }
    }

    @Says({"behind the first t. BAD; NULL.", "(The first t that are ASKED, t 0 to 40: all, if there are fewer.)"})
    static void promise14TIs0To40(Check check) {
        for (int t : Check.row(-1, 41, LEAST, MOST)) {
            bad(check, "work behind " + t, x -> x.work(0, 0, 0, t));
        }
        ServerLine x = Check.line(Check.row(0, 10), 0);
        Check.fill(x, 0, repeated(40, 1, 0));
        check.due("behind none", x.work(1, 0, 0, 0), 10);
        check.due("behind one", x.work(1, 0, 0, 1), 10);
        check.due("behind two", x.work(1, 0, 0, 2), 30);
        check.due("behind 39", x.work(0, 0, 0, 39), 400);
        check.due("behind all 40", x.work(0, 0, 0, 40), 400);
        check.due("behind all 40", x.work(1, 0, 0, 40), 410);
        Check.fill(x, 0, 1, 2, 0, -1);
        check.due("all, if there are fewer", x.work(1, 0, 0, 2), 30);
        check.due("all, if there are fewer", x.work(1, 0, 0, 3), 30);
        check.due("all, if there are fewer", x.work(1, 0, 0, 40), 30);
    }

    @Says("behind the first t. BAD; NULL.")
    static void promise14Null(Check check) {
        nullWithoutRow(check, "work(0, 0, 5, 0)", x -> x.work(0, 0, 5, 0));
        nullWithoutRow(check, "work(2, 2, 0, 40)", x -> x.work(2, 2, 0, 40));
    }

    @Says("is at first the least sum of ways by which SERVERS come from START to it, whoever goes where")
    static void promise14WhoeverGoesWhere(Check check) {
        for (int[] from : ORDERS) {
            ServerLine x = Check.line(Check.row(0, 10, 30, 100), from);
            x.sheet(0, 0, 0);
            for (int[] to : ORDERS) {
                check.due("where they are", x.work(to[0], to[1], to[2], 0), 0);
                // 10 goes to 30 and 30 to 100, or 10 to 100.
                check.due("with 3 for 1", x.work(past1(to[0]), past1(to[1]), past1(to[2]), 0), 90);
            }
            check.due("all to the last", x.work(3, 3, 3, 0), 100 + 90 + 70);
            check.due("all to the first", x.work(0, 0, 0, 0), 10 + 30);
        }
    }

    private static int past1(int point) {
        return point == 1 ? 3 : point;
    }

    // 30 has gone to 100 (70) and goes back; the others would have more to go.
    @Says({"it becomes the least, over all SERVERS, of W (as it was) of the STANDING with that SERVER at that POINT",
        "that SERVER's way from where it stands in it to that POINT"})
    static void promise14TheLeastOverAllServers(Check check) {
        for (int[] from : ORDERS) {
            ServerLine x = Check.line(Check.row(0, 10, 30, 100), from);
            Check.fill(x, 0, 3, 0, 3);
            for (int[] to : ORDERS) {
                check.due("behind one", x.work(to[0], to[1], to[2], 1), 140);
                check.due("behind three", x.work(to[0], to[1], to[2], 3), 140);
                check.due("one is there", x.work(past1(to[0]), past1(to[1]), past1(to[2]), 1), 90);
            }
        }
    }

    // ---- 15, trusts

    @Says({"Whom GUARDED TRUSTS behind the first t: 1, 3. BAD; NULL.",
        "(The first t that are ASKED, t 0 to 40: all, if there are fewer.)"})
    static void promise15TIs0To40(Check check) {
        for (int t : Check.row(-1, 41, LEAST, MOST)) {
            bad(check, "trusts " + t, x -> x.trusts(t));
        }
        ServerLine x = Check.line(Check.row(0, 10), 0, 1);
        Check.fill(x, 0, repeated(40, 0));
        Check.fill(x, 1, repeated(40, 0));
        x.put(1, 2, 39, 1);
        check.due("behind 39", x.trusts(39), 3);
        check.due("behind all 40", x.trusts(40), 1);
        Check.fill(x, 0, 2, 0, 5, 0);
        Check.fill(x, 1, 0, 1);
        check.due("behind 1", x.trusts(1), 3);
        check.due("behind both", x.trusts(2), 1);
        check.due("all, if there are fewer", x.trusts(3), 1);
        check.due("all, if there are fewer", x.trusts(40), 1);
    }

    @Says("Whom GUARDED TRUSTS behind the first t: 1, 3. BAD; NULL.")
    static void promise15Null(Check check) {
        nullWithoutRow(check, "trusts(0)", x -> x.trusts(0));
        nullWithoutRow(check, "trusts(40)", x -> x.trusts(40));
    }

    @Says("it stands as the rule stands that it TRUSTS: HINTED at first")
    static void promise15HintedAtFirst(Check check) {
        ServerLine x = Check.line(Check.row(0, 10), 0, 1);
        x.sheet(0, 0, 0);
        check.due("nothing asked", x.trusts(0), 3);
        check.due("nothing asked", x.trusts(40), 3);
        Check.fill(x, 0, 0);
        Check.fill(x, 1, 1);
        check.due("behind none", x.trusts(0), 3);
        check.due("behind one", x.trusts(1), 1);
    }

    // Server 0 stands 1 away from what is asked, server 1 as far as it is told: BOTH goes 1.
    @Says("if COST so far of the one that it TRUSTS is more than FACTOR times that of the other one")
    static void promise15AsMuchIsNotMore(Check check) {
        for (int f = 1; f <= 9; f++) {
            ServerLine x = Check.line(Check.row(0, f - 1, f, f + 1), 1, 0);
            Check.fill(x, 0, 2);
            Check.fill(x, 1, 1);
            x.factor(f);
            check.due("HINTED goes " + f, x.cost(3), f);
            check.due("BOTH goes", x.cost(1), 1);
            check.due("FACTOR times is not more", x.trusts(1), 3);
            check.due("it went with HINTED", x.cost(4), f);
            x.start(0, 2);
            x.put(0, 2, 0, 3);
            check.due("HINTED goes one more", x.cost(3), f + 1);
            check.due("more than FACTOR times", x.trusts(1), 1);
            check.due("it went with BOTH", x.cost(4), 1);
        }
    }

    @Says("is more than FACTOR times that of the other one")
    static void promise15WhereTheOtherOneCostNothing(Check check) {
        ServerLine x = Check.line(Check.row(0, 1), 0, 1);
        x.factor(9);
        Check.fill(x, 0, 0, 1);
        Check.fill(x, 1, 0, 0);
        check.due("0 is not more than 9 times 0", x.trusts(1), 3);
        check.due("1 is more than 9 times 0", x.trusts(2), 1);
    }

    // Two wrong hints cost HINTED 32; then each 12, 0, 16 costs HINTED 4, 0, 4 and BOTH 8, 4, 4.
    @Says({"it TRUSTS that other one from there on", "RULE 1 and RULE 3 go on by themselves"})
    static void promise15BackToTheHintsOnlyWhereBothIsMore(Check check) {
        ServerLine x = Check.line(Check.row(0, 12, 16), 0, 2);
        x.factor(1);
        Check.fill(x, 0, 0, 2, 1, 0, 2, 1, 0, 2, 1, 0, 2, 1, 0, 2, 1, 0);
        Check.fill(x, 1, 1, 1);
        check.due("at first", x.trusts(0), 3);
        check.due("16 against 0", x.trusts(1), 1);
        check.due("BOTH 56, HINTED 60", x.trusts(12), 1);
        check.due("60 and 60 is not more", x.trusts(13), 1);
        check.due("64 and 64 is not more", x.trusts(14), 1);
        check.due("BOTH 72, HINTED 68", x.trusts(15), 3);
        check.due("it stays", x.trusts(16), 3);
        check.due("HINTED", x.cost(3), 32 + 4 * 8 + 4);
        check.due("BOTH", x.cost(1), 4 * 16 + 8 + 4);
        check.due("GUARDED: 64 as BOTH, then from 0 and 16 to 0 and 12", x.cost(4), 64 + 4);
    }
}
