/** Promises 16 to 19: worst rows, longing. */
public final class WorstPromisesTest {
    private static final int LEAST = Integer.MIN_VALUE;
    private static final int MOST = Integer.MAX_VALUE;
    private static final Check check = new Check();

    public static void main(String[] args) {
        worst();
        worstOfLikeOnes();
        worstNeedsNoSheet();
        noWorst();
        longing();
        longingHoldsTheWholeRow();
        pays();
        refusals();
        check.end();
    }

    private static void worst() {
        ServerLine x = Check.line(Check.row(0, 100, 101, 300), 0, 3);
        check.due("16: nearest, 1", x.worst(0, 1), 1);
        check.due("17: nearest, 1", x.worstShare(0, 1), 100);
        // 2, 0: nearest goes 101 and back, the best lets the far one go 199.
        check.due("16: nearest, 2", x.worst(0, 2), 8);
        check.due("17: nearest, 2", x.worstShare(0, 2), 101);
        check.due("16: nearest, 3", x.worst(0, 3), 34);
        check.due("17: nearest, 3", x.worstShare(0, 3), 152);
        check.due("16: both, 1", x.worst(1, 1), 1);
        check.due("17: both, 1", x.worstShare(1, 1), 200);
        check.due("16: both, 3", x.worst(1, 3), 7);
        check.due("16: work, 3", x.worst(2, 3), 34);
        check.due("17: work, 3", x.worstShare(2, 3), 201);
    }

    private static void worstOfLikeOnes() {
        ServerLine x = Check.line(Check.row(0, 10, 20), 0);
        check.due("16: one server is the best itself", x.worst(0, 3), 1);
        check.due("17: one server is the best itself", x.worstShare(0, 3), 100);
        x.start(0, 1);
        check.due("16: the least number", x.worst(0, 3), 0);
        check.due("16: the least number", x.worst(2, 2), 0);
        check.due("17: the least number", x.worstShare(1, 2), 100);
    }

    private static void worstNeedsNoSheet() {
        ServerLine x = Check.line(Check.row(0, 10, 16), 0, 2);
        int without = x.worst(1, 3);
        Check.fill(x, 0, 1, 2);
        Check.fill(x, 1, 1, 1);
        check.due("16: sheets are not looked at", x.worst(1, 3), without);
        int before = x.cost(2);
        x.worst(2, 3);
        check.due("16: changes nothing", x.cost(2), before);
        check.due("16: no finding", x.count(3), 0);
    }

    private static void noWorst() {
        ServerLine x = new ServerLine();
        check.due("16: one point", x.worst(0, 1), -1);
        check.due("17: one point", x.worstShare(0, 1), -3);
        ServerLine y = Check.line(Check.row(7, 7, 7), 0, 1);
        check.due("16: like places", y.worst(2, 3), -1);
        check.due("17: like places", y.worstShare(1, 3), -3);
        ServerLine z = Check.line(Check.row(0, 9), 0, 1);
        check.due("16: a server at each", z.worst(1, 2), -1);
        check.due("17: NOT is no finding", z.worstShare(1, 2), -3);
        check.due("17: NOT is no finding", z.count(3), 0);
    }

    private static void longing() {
        ServerLine x = Check.line(Check.row(0, 10, 16), 0, 2);
        Check.fill(x, 0, 1, 0, 1, 2, 9, 1, 1);
        check.due("18: at first, between its own", x.longing(0), 16);
        // 6 and 10 against 0 and 10.
        check.due("18: behind one", x.longing(1), 2 * 6 + 4);
        // 0 and 10 against 0 and 10.
        check.due("18: behind two", x.longing(2), 10);
        check.due("18: all, if there are fewer", x.longing(40), x.longing(6));
        ServerLine y = Check.line(Check.row(0, 10, 30), 0, 1, 2);
        y.sheet(0, 0, 0);
        check.due("18: three, all pairs", y.longing(0), 10 + 20 + 30);
        y.servers(1);
        check.due("18: one has no pairs", y.longing(40), 0);
    }

    // A best way knows what comes: alone, 10 is served from 16; with 16 behind it, from 0.
    private static void longingHoldsTheWholeRow() {
        ServerLine x = Check.line(Check.row(0, 10, 16), 0, 2);
        Check.fill(x, 0, 1);
        // 6 and 10 against 0 and 10.
        check.due("18: alone", x.longing(1), 2 * 6 + 4);
        Check.fill(x, 0, 1, 2);
        // 6 and 10 against 10 and 16.
        check.due("18: with what comes", x.longing(1), 2 * 10 + 4);
        // 6 and 16 against 10 and 16.
        check.due("18: with what comes, behind it", x.longing(2), 2 * 4 + 10);
    }

    // RULE 1 is known to pay each step, whatever is asked, so NONE is all there is to see.
    private static void pays() {
        ServerLine x = Check.line(Check.row(0, 10, 16, 25, 3, 8), 0, 2, 2);
        x.sheet(0, 0, 0);
        check.due("19: nothing asked", x.pays(), -1);
        Check.fill(x, 0, 1, 3, 5, 0, 2, 4, 1, 0, 3, 5, 2, 1);
        check.due("19: pays", x.pays(), -1);
        x.servers(1);
        check.due("19: one server pays", x.pays(), -1);
    }

    private static void refusals() {
        ServerLine x = new ServerLine();
        int[] noRules = {-1, 3, 4, LEAST, MOST};
        for (int rule : noRules) {
            check.due("16: rule " + rule, x.worst(rule, 1), -2);
            check.due("17: rule " + rule, x.worstShare(rule, 1), -2);
        }
        int[] noLengths = {0, 4, -1, LEAST, MOST};
        for (int l : noLengths) {
            check.due("16: l " + l, x.worst(0, l), -2);
            check.due("17: l " + l, x.worstShare(0, l), -2);
        }
        int[] noTimes = {-1, 41, LEAST, MOST};
        for (int t : noTimes) {
            check.due("18: t " + t, x.longing(t), -2);
        }
        check.due("BAD is no finding", x.count(3), 0);
        check.due("18: NULL", x.longing(40), -11);
        check.due("NULL is a finding", x.count(3), 1);
        check.due("19: NULL", x.pays(), -11);
    }
}
