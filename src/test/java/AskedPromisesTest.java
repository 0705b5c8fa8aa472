/** Promises 7 to 15: what is asked. */
public final class AskedPromisesTest {
    private static final int LEAST = Integer.MIN_VALUE;
    private static final int MOST = Integer.MAX_VALUE;
    private static final Check check = new Check();

    public static void main(String[] args) {
        asked();
        nearest();
        both();
        bothWithAlikeServers();
        workRule();
        hinted();
        guarded();
        guardedGoesBack();
        best();
        bestWayIsTheLeast();
        share();
        work();
        lineChangesInBetween();
        threeServers();
        refusals();
        badGoesAheadOfNull();
        check.end();
    }

    private static void asked() {
        ServerLine x = Check.line(Check.row(0, 10, 20), 0);
        check.due("7: NULL", x.asked(), -11);
        check.due("7: NULL is a finding", x.count(3), 1);
        x.sheet(0, 0, 0);
        check.due("7: none", x.asked(), 0);
        check.due("7: none cost", x.cost(0), 0);
        Check.fill(x, 0, -1, 0, 3, 2, MOST, LEAST, 1, 256, 65536);
        check.due("7: 0 to N - 1 alone", x.asked(), 3);
        x.points(2);
        check.due("7: fewer points", x.asked(), 2);
        x.sheet(0, 0, 40);
        check.due("7: forty", x.asked(), 40);
        x.put(0, 0, 7, 257);
        check.due("7: bytes are cut", x.asked(), 40);
        x.put(0, 0, 7, 255);
        check.due("7: bytes have a sign", x.asked(), 39);
    }

    private static void nearest() {
        ServerLine x = Check.line(Check.row(0, 10, 16, 20), 0, 3);
        Check.fill(x, 0, 1, 2, 9, 0, 1);
        check.due("8: nearest, of like ones the least", x.goes(0, 0), 0);
        check.due("9: nearest 0, 0", x.stands(0, 0, 0), 0);
        check.due("9: nearest 1, 0", x.stands(0, 1, 0), 20);
        check.due("9: nearest 0, 1", x.stands(0, 0, 1), 10);
        check.due("10: nearest 1", x.goes(0, 1), 1);
        check.due("9: nearest 1, 2", x.stands(0, 1, 2), 16);
        check.due("10: nearest 2", x.goes(0, 2), 0);
        check.due("10: nearest 3", x.goes(0, 3), 1);
        check.due("10: nearest 4 is not there", x.goes(0, 4), -1);
        check.due("10: nearest 39 is not there", x.goes(0, 39), -1);
        check.due("8: nearest", x.cost(0), 10 + 4 + 10 + 6);
        check.due("9: all, if there are fewer", x.stands(0, 1, 40), 10);
    }

    private static void both() {
        ServerLine x = Check.line(Check.row(0, 10, 16, 3), 0, 2);
        Check.fill(x, 0, 1, 1, 3, 2);
        check.due("9: both 0, 1", x.stands(1, 0, 1), 6);
        check.due("9: both 1, 1", x.stands(1, 1, 1), 10);
        check.due("9: there already", x.stands(1, 0, 2), 6);
        check.due("9: one side 0", x.stands(1, 0, 3), 3);
        check.due("9: one side 1", x.stands(1, 1, 3), 10);
        check.due("9: other side 0", x.stands(1, 0, 4), 3);
        check.due("9: other side 1", x.stands(1, 1, 4), 16);
        check.due("8: both", x.cost(1), 12 + 0 + 3 + 6);
    }

    private static void bothWithAlikeServers() {
        ServerLine x = Check.line(Check.row(0, 10, 4), 0, 0, 1);
        Check.fill(x, 0, 2, 1);
        check.due("9: of like ones the least goes", x.stands(1, 0, 1), 4);
        check.due("9: the other one stays", x.stands(1, 1, 1), 0);
        check.due("9: from the other side", x.stands(1, 2, 1), 6);
        check.due("9: back again", x.stands(1, 2, 2), 10);
        check.due("8: both, alike", x.cost(1), 8 + 4);
        ServerLine y = Check.line(Check.row(0, 10, 4), 1, 1, 1);
        Check.fill(y, 0, 2);
        check.due("9: one side, the least goes", y.stands(1, 0, 1), 4);
        check.due("9: one side, others stay", y.stands(1, 1, 1), 10);
    }

    // Nearest goes to and fro between 10 and 12 for ever; by W the far one comes in the end: W of
    // (10, 12) is 8 throughout, so sending it is 16 together, and sending the near one for the
    // n-th time is 2n + 2: alike at the seventh, more at the ninth.
    private static void workRule() {
        ServerLine x = Check.line(Check.row(0, 10, 12, 20), 1, 3);
        Check.fill(x, 0, 2, 1, 2, 1, 2, 1, 2, 1, 2, 1);
        check.due("8: nearest for ever", x.cost(0), 20);
        check.due("8: the best", x.best(), 8);
        for (int t = 0; t < 8; t++) {
            check.due("10: W " + t, x.goes(2, t), 0);
        }
        check.due("10: W 8", x.goes(2, 8), 1);
        check.due("10: W 9", x.goes(2, 9), 0);
        check.due("10: W 10 is not there", x.goes(2, 10), -1);
        check.due("8: W", x.cost(2), 16 + 8);
        check.due("9: W 0", x.stands(2, 0, 40), 10);
        check.due("9: W 1", x.stands(2, 1, 8), 20);
        check.due("9: W 1", x.stands(2, 1, 40), 12);
        ServerLine y = Check.line(Check.row(0, 0, 5), 0, 1);
        Check.fill(y, 0, 2);
        check.due("10: W, of like ones the least", y.goes(2, 0), 0);
    }

    private static void hinted() {
        ServerLine x = Check.line(Check.row(0, 10, 20), 0, 2);
        Check.fill(x, 0, 7, 0, 1, -1, 1, 2);
        check.due("8: no hints, as nearest", x.cost(3), x.cost(0));
        Check.fill(x, 1, 1, 2, -1);
        check.due("10: hint of the first that is asked", x.goes(3, 0), 1);
        check.due("10: no such server, as nearest", x.goes(3, 1), 0);
        check.due("10: no hint, as nearest", x.goes(3, 2), 0);
        check.due("10: beyond the hints, as nearest", x.goes(3, 3), 0);
        check.due("8: hinted", x.cost(3), 20 + 10 + 0 + 10);
        check.due("9: hinted 0", x.stands(3, 0, 4), 20);
        check.due("9: hinted 1", x.stands(3, 1, 4), 0);
        x.servers(3);
        check.due("10: with three servers", x.goes(3, 1), 2);
        x.servers(1);
        check.due("10: with one server", x.goes(3, 0), 0);
        check.due("8: with one server", x.cost(3), 20);
        x.servers(2);
        x.start(1, 2);
        x.lose(1);
        check.due("8: hints are lost", x.cost(3), x.cost(0));
    }

    private static void guarded() {
        ServerLine x = Check.line(Check.row(0, 100, 101, 300), 0, 3);
        Check.fill(x, 0, 1, 2, 1, 2, 1, 2);
        Check.fill(x, 1, 1, 0, 1);
        x.factor(1);
        check.due("15: hinted at first", x.trusts(0), 3);
        check.due("15: as dear is not dearer", x.trusts(1), 3);
        check.due("15: dearer", x.trusts(2), 1);
        check.due("15: all, if there are fewer", x.trusts(40), 1);
        check.due("8: guarded by 1", x.cost(4), 406);
        x.factor(2);
        check.due("15: not dearer by 2", x.trusts(40), 3);
        check.due("8: guarded by 2", x.cost(4), x.cost(3));
        x.sheet(0, 0, 0);
        check.due("15: nothing asked", x.trusts(40), 3);
        check.due("8: nothing asked", x.cost(4), 0);
    }

    // Two wrong hints make HINTED spend 32 while BOTH spends nothing; then each 10, 0, 16 costs
    // HINTED 6, 0, 6 and BOTH 12, 6, 6: BOTH is dearer at the tenth point, 66 against 62.
    private static void guardedGoesBack() {
        ServerLine x = Check.line(Check.row(0, 10, 16), 0, 2);
        x.factor(1);
        Check.fill(x, 0, 0, 2, 1, 0, 2, 1, 0, 2, 1, 0, 2);
        Check.fill(x, 1, 1, 1);
        check.due("8: hinted", x.cost(3), 32 + 36);
        check.due("8: both", x.cost(1), 72);
        check.due("15: away from the hints", x.trusts(1), 1);
        check.due("15: not yet back", x.trusts(9), 1);
        check.due("15: back", x.trusts(10), 3);
        check.due("15: stays", x.trusts(11), 3);
        check.due("8: guarded", x.cost(4), 60 + 6 + 6);
        // Trusting BOTH from the first point on, it never went the ways of the wrong hints.
        Check.fill(x, 0, 0, 2);
        check.due("8: guarded goes nowhere", x.cost(4), 0);
    }

    private static void best() {
        ServerLine x = Check.line(Check.row(0, 10, 16), 0, 2);
        Check.fill(x, 0, 1, 0, 1, 2, 1);
        check.due("11: best", x.best(), 18);
        x.sheet(0, 1, 0);
        check.due("11: nothing asked", x.best(), 0);
        check.due("12: nothing asked", x.way(0), -1);
    }

    private static void bestWayIsTheLeast() {
        ServerLine x = Check.line(Check.row(0, 10, 20), 0, 2);
        Check.fill(x, 0, 1);
        check.due("12: of like ones the least", x.way(0), 0);
        check.due("12: none such", x.way(1), -1);
        Check.fill(x, 0, 1, 0);
        check.due("12: knows what comes", x.way(0), 1);
        check.due("12: stays", x.way(1), 0);
        ServerLine y = Check.line(Check.row(5, 5), 1, 0, 0);
        Check.fill(y, 0, 0, 1, 0);
        for (int t = 0; t < 3; t++) {
            check.due("12: no way, the least", y.way(t), 0);
        }
        check.due("12: none such behind", y.way(3), -1);
    }

    private static void share() {
        ServerLine x = Check.line(Check.row(0, 10, 12, 20), 1, 3);
        Check.fill(x, 0, 2, 1, 2, 1, 2, 1, 2, 1, 2, 1);
        check.due("13: nearest", x.share(0), 250);
        check.due("13: work", x.share(2), 300);
        ServerLine y = Check.line(Check.row(0, 10, 16), 0, 2);
        Check.fill(y, 0, 1, 0, 1, 2, 1, 0);
        check.due("13: rounded down, 42 by 18", y.share(1), 233);
        Check.fill(y, 0, 0, 2, 0);
        for (int rule = 0; rule < 5; rule++) {
            check.due("13: NOT, the best is 0", y.share(rule), -3);
        }
        check.due("13: NOT is no finding", y.count(3), 0);
    }

    private static void work() {
        ServerLine x = Check.line(Check.row(0, 10, 16), 0, 2);
        Check.fill(x, 0, 1, 0);
        check.due("14: whoever goes where", x.work(2, 0, 0, 0), 0);
        check.due("14: at first", x.work(1, 1, 0, 0), 16);
        check.due("14: behind one", x.work(0, 2, 0, 1), 12);
        check.due("14: behind one, there", x.work(0, 1, 0, 1), 6);
        check.due("14: behind two", x.work(1, 2, 5, 2), 22);
        check.due("14: all, if there are fewer", x.work(1, 2, 5, 40), 22);
        check.due("14: not a point of a server that is there", x.work(0, 3, 0, 0), -2);
        check.due("14: free for one that is not", x.work(0, 0, 5, 0), 16);
        check.due("14: free for one that is not, alike", x.work(0, 2, 3, 1), x.work(0, 2, 0, 1));
        check.due("14: not beyond 5", x.work(0, 0, 6, 0), -2);
        check.due("14: not below 0", x.work(0, 0, -1, 0), -2);
        check.due("14: not below 0", x.work(-1, 0, 0, 0), -2);
        check.due("14: t 41", x.work(0, 0, 0, 41), -2);
        check.due("14: t -1", x.work(0, 0, 0, -1), -2);
        x.servers(3);
        check.due("14: three", x.work(0, 0, 3, 0), -2);
        check.due("14: three", x.work(0, 0, 2, 0), 0);
        check.due("14: three", x.work(1, 1, 1, 0), 26);
        x.servers(1);
        check.due("14: one", x.work(2, 5, 5, 2), 10 + 10 + 16);
        check.due("14: one", x.work(3, 0, 0, 0), -2);
    }

    // What was worked out for an earlier line must not be left over.
    private static void lineChangesInBetween() {
        ServerLine x = new ServerLine();
        x.servers(2);
        Check.fill(x, 0, 2, 1, 2, 0);
        check.due("7: one point", x.asked(), 1);
        check.due("11: one point", x.best(), 0);
        x.points(3);
        x.place(1, 10);
        x.place(2, 16);
        check.due("11: three points", x.best(), 16 + 6 + 6);
        check.due("8: three points", x.cost(2), 16 + 6 + 6);
        check.due("14: three points", x.work(2, 0, 0, 4), 28);
        x.start(0, 1);
        check.due("11: another start", x.best(), 6 + 6 + 6);
        x.servers(3);
        x.start(2, 2);
        check.due("11: a server each", x.best(), 0);
        x.place(2, 20);
        check.due("11: still there", x.best(), 0);
        x.servers(1);
        check.due("11: one server", x.best(), 10 + 10 + 10 + 20);
        x.points(2);
        check.due("11: two points", x.best(), 0 + 10);
    }

    // Hints make server 0 pass both others; then all is drawn to where RULE 1 stands.
    private static void threeServers() {
        ServerLine x = Check.line(Check.row(0, 10, 30, 100), 0, 1, 2);
        Check.fill(x, 0, 3, 0, 1);
        Check.fill(x, 1, 0);
        x.factor(1);
        check.due("10: hinted", x.goes(3, 0), 0);
        check.due("10: nearest heeds no hint", x.goes(0, 0), 2);
        check.due("8: nearest", x.cost(0), 70);
        check.due("10: without a hint the nearest", x.goes(3, 1), 1);
        check.due("10: without a hint the nearest, of like ones", x.goes(3, 2), 1);
        check.due("8: hinted", x.cost(3), 100 + 10 + 10);
        // BOTH sends 30 to 100 and then has one at each: 70.
        check.due("8: both", x.cost(1), 70);
        check.due("15: at once", x.trusts(1), 1);
        check.due("8: guarded", x.cost(4), 70);
        x.factor(2);
        check.due("15: not at once", x.trusts(40), 3);
        check.due("8: guarded, whoever goes where", x.cost(4), 120);
        check.due("14: whoever goes where", x.work(1, 2, 0, 0), 0);
        check.due("14: whoever goes where", x.work(3, 0, 1, 0), 70);
        check.due("14: whoever goes where", x.work(1, 3, 0, 0), 70);
        check.due("14: whoever goes where", x.work(2, 1, 0, 1), 140);
    }

    private static void refusals() {
        ServerLine x = Check.line(Check.row(0, 10), 0, 1);
        Check.fill(x, 0, 0, 1);
        int[] noRules = {-1, 5, LEAST, MOST};
        for (int rule : noRules) {
            check.due("8: rule " + rule, x.cost(rule), -2);
            check.due("9: rule " + rule, x.stands(rule, 0, 0), -2);
            check.due("10: rule " + rule, x.goes(rule, 0), -2);
            check.due("13: rule " + rule, x.share(rule), -2);
        }
        check.due("9: rule 4", x.stands(4, 0, 0), -2);
        check.due("10: rule 1", x.goes(1, 0), -2);
        check.due("10: rule 4", x.goes(4, 0), -2);
        check.due("9: server 2", x.stands(0, 2, 0), -2);
        check.due("9: server -1", x.stands(0, -1, 0), -2);
        int[] noTimes = {-1, 41, LEAST, MOST};
        for (int t : noTimes) {
            check.due("9: t " + t, x.stands(0, 0, t), -2);
            check.due("10: t " + t, x.goes(0, t), -2);
            check.due("12: t " + t, x.way(t), -2);
            check.due("15: t " + t, x.trusts(t), -2);
        }
        check.due("10: t 40", x.goes(0, 40), -2);
        check.due("12: t 40", x.way(40), -2);
        check.due("9: t 40", x.stands(0, 0, 40), 0);
        check.due("no findings", x.count(3), 0);
    }

    private static void badGoesAheadOfNull() {
        ServerLine x = new ServerLine();
        check.due("8: BAD first", x.cost(5), -2);
        check.due("9: BAD first", x.stands(0, 1, 0), -2);
        check.due("10: BAD first", x.goes(1, 0), -2);
        check.due("12: BAD first", x.way(40), -2);
        check.due("13: BAD first", x.share(5), -2);
        check.due("14: BAD first", x.work(1, 0, 0, 0), -2);
        check.due("15: BAD first", x.trusts(41), -2);
        check.due("BAD is no finding", x.count(3), 0);
        check.due("8: NULL", x.cost(4), -11);
        check.due("9: NULL", x.stands(3, 0, 40), -11);
        check.due("10: NULL", x.goes(3, 39), -11);
        check.due("11: NULL", x.best(), -11);
        check.due("12: NULL", x.way(39), -11);
        check.due("13: NULL ahead of NOT", x.share(4), -11);
        check.due("14: NULL", x.work(0, 5, 5, 40), -11);
        check.due("15: NULL", x.trusts(40), -11);
        check.due("NULL is a finding", x.count(3), 1);
    }
}
