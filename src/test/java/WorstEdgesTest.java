/** The boundary cases of promises 16 to 19: worst rows, longing. */
final class WorstEdgesTest extends Edges {
    public static void main(String[] args) throws Exception {
        run(WorstEdgesTest.class, 16, 19);
    }

    // ---- 16, worst

    @Says({"THE WORST row as a number; NONE. BAD: RULE, L.", "THE WORST row of RULE 0 to 2 of L (1 to 3) POINTS"})
    static void promise16RulesAre0To2(Check check) {
        for (int rule : Check.row(-1, 3, 4, LEAST, MOST)) {
            bad(check, "worst " + rule, x -> x.worst(rule, 1));
        }
        ServerLine x = scene(true);
        for (int rule = 0; rule < 3; rule++) {
            check.due("rule " + rule, x.worst(rule, 1), 1);
        }
    }

    @Says({"THE WORST row as a number; NONE. BAD: RULE, L.", "THE WORST row of RULE 0 to 2 of L (1 to 3) POINTS"})
    static void promise16LIs1To3(Check check) {
        for (int l : Check.row(0, 4, -1, LEAST, MOST)) {
            bad(check, "worst of " + l, x -> x.worst(0, l));
        }
        // NEAREST goes 7 to and fro; the best lets 16 go 9, once for all: 7, 14 by 9, 21 by 9.
        ServerLine x = Check.line(Check.row(0, 16, 7), 0, 1);
        check.due("of 1", x.worst(0, 1), 2);
        check.due("of 2", x.worst(0, 2), 2 * 3);
        check.due("of 3", x.worst(0, 3), 2 * 9 + 0 * 3 + 2);
    }

    @Says("THE WORST row as a number; NONE. BAD: RULE, L.")
    static void promise16NoSheetIsWanted(Check check) {
        ServerLine x = scene(false);
        check.due("without a row", x.worst(0, 2), scene(true).worst(0, 2));
        check.due("no finding", x.count(3), 0);
        check.due("a new object", new ServerLine().worst(0, 1), NONE);
    }

    @Says({"NONE, if BEST is 0 for all.", "(BEST above 0; compared exactly)"})
    static void promise16NoneIfTheBestIs0ForAll(Check check) {
        ServerLine alike = Check.line(Check.row(9, 9, 9), 0, 2);
        ServerLine covered = Check.line(Check.row(0, 10, 20), 2, 0, 1);
        for (int rule = 0; rule < 3; rule++) {
            for (int l = 1; l <= 3; l++) {
                check.due("one point", new ServerLine().worst(rule, l), NONE);
                check.due("alike places", alike.worst(rule, l), NONE);
                check.due("a server at each", covered.worst(rule, l), NONE);
            }
        }
    }

    @Says("(BEST above 0; compared exactly)")
    static void promise16TheBestIs1(Check check) {
        ServerLine x = Check.line(Check.row(0, 1), 0);
        for (int rule = 0; rule < 3; rule++) {
            check.due("rule " + rule, x.worst(rule, 1), 1);
            check.due("rule " + rule, x.worst(rule, 3), 1);
            check.due("rule " + rule, x.worstShare(rule, 3), 100);
        }
    }

    // 668 by 666 is more than 334 by 334, though both are 100 hundredths.
    @Says("(BEST above 0; compared exactly)")
    static void promise16ComparedExactly(Check check) {
        ServerLine x = Check.line(Check.row(0, 1000, 334), 0, 1);
        check.due("334, 0", x.worst(0, 2), 2 * 3 + 0);
        check.due("in hundredths", x.worstShare(0, 2), 100);
        check.due("one alone", x.worst(0, 1), 2);
    }

    @Says({"of all rows of L, that with the greatest COST by BEST",
        "of like ones the least as numbers by N (the first POINT the highest place)"})
    static void promise16OfLikeOnesTheLeast(Check check) {
        ServerLine x = Check.line(Check.row(5, 0, 10), 0);
        for (int rule = 0; rule < 3; rule++) {
            check.due("one server, 1 and 2 are alike", x.worst(rule, 1), 1);
            check.due("one server, 0 0 1", x.worst(rule, 3), 1);
            x.start(0, 1);
            check.due("one server, 0 0 0", x.worst(rule, 3), 0);
            x.start(0, 0);
        }
    }

    // 22, 25, 22 with servers at 25 and 28: NEAREST goes 3 three times, the best twice.
    @Says("(the first POINT the highest place)")
    static void promise16OfSixPointsTheFirstIsTheHighestPlace(Check check) {
        ServerLine x = Check.line(Check.row(11, 28, 6, 2, 25, 22), 4, 1);
        check.due("5, 4, 5", x.worst(0, 3), 5 * 36 + 4 * 6 + 5);
        check.due("9 by 6", x.worstShare(0, 3), 150);
        ServerLine y = Check.line(Check.row(3, 3, 3, 3, 3, 4), 2, 4, 1);
        check.due("the last of six", y.worst(1, 1), 5);
        check.due("0, 0, 5", y.worst(2, 3), 5);
    }

    @Says({"THE WORST row as a number; NONE. BAD: RULE, L.", "They change nothing"})
    static void promise16OneCallLeavesNothingToTheNext(Check check) {
        ServerLine x = Check.line(Check.row(0, 100, 101, 300), 0, 3);
        check.due("of 3", x.worst(0, 3), 34);
        check.due("of 1", x.worst(0, 1), 1);
        check.due("of 2", x.worst(0, 2), 8);
        check.due("by W", x.worst(2, 3), 34);
        check.due("by W again", x.worst(2, 3), 34);
        x.servers(1);
        check.due("one server", x.worst(2, 3), 1);
        x.points(1);
        check.due("one point", x.worst(2, 3), NONE);
        check.due("one point", x.worstShare(2, 3), NOT);
    }

    // ---- 17, worstShare

    @Says("COST by THE BEST of THE WORST row in hundredths, rounded down. BAD; NOT: there is none.")
    static void promise17RulesAre0To2AndLIs1To3(Check check) {
        for (int rule : Check.row(-1, 3, 4, LEAST, MOST)) {
            bad(check, "worstShare " + rule, x -> x.worstShare(rule, 1));
        }
        for (int l : Check.row(0, 4, -1, LEAST, MOST)) {
            bad(check, "worstShare of " + l, x -> x.worstShare(0, l));
        }
        ServerLine x = Check.line(Check.row(0, 100, 101, 300), 0, 3);
        check.due("NEAREST of 1", x.worstShare(0, 1), 100);
        check.due("NEAREST of 2: 202 by 199", x.worstShare(0, 2), 101);
        check.due("NEAREST of 3: 303 by 199", x.worstShare(0, 3), 152);
        check.due("BOTH of 1", x.worstShare(1, 1), 200);
        check.due("WORK of 3: 401 by 199", x.worstShare(2, 3), 201);
    }

    @Says("BAD; NOT: there is none.")
    static void promise17NotWhereThereIsNone(Check check) {
        ServerLine alike = Check.line(Check.row(9, 9, 9), 0, 2);
        for (int rule = 0; rule < 3; rule++) {
            for (int l = 1; l <= 3; l++) {
                check.due("one point", new ServerLine().worstShare(rule, l), NOT);
                check.due("alike places", alike.worstShare(rule, l), NOT);
            }
        }
        check.due("no finding", alike.count(3), 0);
        check.due("BAD ahead of NOT", alike.worstShare(3, 1), BAD);
        check.due("BAD ahead of NOT", alike.worstShare(0, 4), BAD);
        ServerLine x = Check.line(Check.row(0, 10), 0);
        check.due("there is one", x.worstShare(1, 2), 100);
        x.place(1, 0);
        check.due("there is none any more", x.worstShare(1, 2), NOT);
    }

    @Says("in hundredths, rounded down")
    static void promise17RoundedDown(Check check) {
        ServerLine x = Check.line(Check.row(0, 1000, 334), 0, 1);
        check.due("668 by 666", x.worstShare(0, 2), 100);
        ServerLine y = Check.line(Check.row(0, 1000, 499), 0, 1);
        check.due("998 by 501", y.worstShare(0, 2), 199);
    }

    // ---- 18, longing

    @Says({"LONGING behind the first t. BAD; NULL.",
        "(The first t that are ASKED, t 0 to 40: all, if there are fewer.)"})
    static void promise18TIs0To40(Check check) {
        for (int t : Check.row(-1, 41, LEAST, MOST)) {
            bad(check, "longing " + t, x -> x.longing(t));
        }
        ServerLine x = Check.line(Check.row(0, 10, 16), 0, 2);
        Check.fill(x, 0, repeated(40, 1, 0));
        check.due("behind none: 16 between its own", x.longing(0), 16);
        // 6 and 10 against 0 and 10.
        check.due("behind one", x.longing(1), 2 * 6 + 4);
        check.due("behind 39", x.longing(39), 10);
        check.due("behind all 40", x.longing(40), 10);
        Check.fill(x, 0, 9, 1, -1);
        check.due("all, if there are fewer", x.longing(1), 16);
        check.due("all, if there are fewer", x.longing(2), 16);
        check.due("all, if there are fewer", x.longing(40), 16);
    }

    @Says("LONGING behind the first t. BAD; NULL.")
    static void promise18Null(Check check) {
        nullWithoutRow(check, "longing(0)", x -> x.longing(0));
        nullWithoutRow(check, "longing(40)", x -> x.longing(40));
    }

    @Says("all ways between two of its own SERVERS")
    static void promise18WaysBetweenEachTwo(Check check) {
        ServerLine x = Check.line(Check.row(0, 10, 1000), 0, 2, 1);
        x.sheet(0, 0, 0);
        check.due("three", x.longing(0), 1000 + 10 + 990);
        x.servers(2);
        check.due("two", x.longing(40), 1000);
        x.servers(1);
        check.due("one has no two", x.longing(0), 0);
    }

    @Says({"k times the least sum of ways from where its SERVERS stand to where those of A BEST WAY stand",
        "whoever to whoever"})
    static void promise18WhoeverToWhoever(Check check) {
        // A BEST WAY lets 0 pass 1: 0, 1 and 1, 0 and 1, 1 are 20 each.
        ServerLine x = Check.line(Check.row(0, 10, 20), 0, 1);
        Check.fill(x, 0, 2, 1);
        check.due("way(0)", x.way(0), 0);
        check.due("way(1)", x.way(1), 1);
        check.due("0 and 10", x.longing(0), 10);
        check.due("0 and 20 against 20 and 10", x.longing(1), 2 * 10 + 20);
        check.due("10 and 10 against 20 and 10", x.longing(2), 2 * 10 + 0);
    }

    @Says("k times the least sum of ways from where its SERVERS stand to where those of A BEST WAY stand")
    static void promise18KTimes(Check check) {
        // BOTH: 6, 10 (and 30); A BEST WAY knows that 16 comes again: 10, 16 (and 30).
        ServerLine x = Check.line(Check.row(0, 10, 16, 30), 0, 2);
        Check.fill(x, 0, 1, 2);
        check.due("two", x.longing(1), 2 * 10 + 4);
        ServerLine y = Check.line(Check.row(0, 10, 16, 30), 0, 2, 3);
        Check.fill(y, 0, 1, 2);
        check.due("three", y.longing(1), 3 * 10 + 4 + 24 + 20);
        ServerLine z = Check.line(Check.row(0, 10, 16, 30), 0);
        Check.fill(z, 0, 1, 2);
        check.due("one goes as the best", z.longing(1), 0);
    }

    // ---- 19, pays

    @Says("The first step (from 0) that does not PAY; NONE. NULL.")
    static void promise19Null(Check check) {
        nullWithoutRow(check, "pays()", x -> x.pays());
    }

    @Says("The first step (from 0) that does not PAY; NONE. NULL.")
    static void promise19NoneWhereNothingIsAsked(Check check) {
        ServerLine x = Check.line(Check.row(0, 10), 0, 1);
        x.sheet(0, 0, 0);
        check.due("no items", x.pays(), NONE);
        Check.fill(x, 0, -1, 2);
        check.due("all are LOST", x.pays(), NONE);
    }

    @Says({"A step PAYS, if what RULE 1 goes in it and what LONGING grows by (below 0: falls)",
        "are together at most k times what goes in it on A BEST WAY"})
    static void promise19AsMuchPays(Check check) {
        // With one server both go alike, and LONGING is 0: each step is as much as it may be.
        ServerLine one = Check.line(Check.row(0, 10, 16), 0);
        Check.fill(one, 0, 1, 0, 2, 2, 1);
        check.due("one server", one.pays(), NONE);
        // Step 0: 10 and LONGING from 10 to 40, against twice 20. Step 1: 20 and LONGING from 40
        // to 20, against twice 0.
        ServerLine two = Check.line(Check.row(0, 10, 20), 0, 1);
        Check.fill(two, 0, 2, 1);
        check.due("10 to 40", two.longing(1) - two.longing(0), 30);
        check.due("40 to 20", two.longing(2) - two.longing(1), -20);
        check.due("two servers", two.pays(), NONE);
    }

    @Says({"what LONGING grows by (below 0: falls)", "of 0 to 40 items"})
    static void promise19FortySteps(Check check) {
        ServerLine x = Check.line(Check.row(0, 1000, 333, 334, 500, 999), 0, 1, 0);
        Check.fill(x, 0, repeated(40, 2, 4, 3, 5, 1, 0, 4));
        for (int k = 3; k >= 1; k--) {
            x.servers(k);
            check.due(k + " servers", x.pays(), NONE);
        }
    }
}
