/**
 * Servers on a line that are asked to places one by one: rules that do not know what comes, held
 * against the best that knew all ahead. The promises that this class keeps stand in DOC.md.
 */
public final class ServerLine {
    public static final int NONE = -1, BAD = -2, NOT = -3;

    private static final int MOST_POINTS = 6;
    private static final int MOST_SERVERS = 3;
    private static final int MOST_STANDINGS = 216;
    private static final int MOST_CROWDS = 56;
    private static final int MOST_PLACE = 1000;
    private static final int MOST_FACTOR = 9;
    private static final int MOST_SHEETS = 4;
    private static final int MOST_FORMS = 3;
    private static final int MOST_ITEMS = 40;
    private static final int LONGEST_WORST = 3;
    private static final int MOST_ROWS = 216;

    private static final int NEAREST = 0, BOTH = 1, WORK = 2, HINTED = 3, GUARDED = 4;
    private static final int NULL = 1, INDEX = 2, CAST = 3, STORE = 4, SIZE = 5;
    private static final int ASKED_SHEET = 0, HINT_SHEET = 1;
    private static final int FINE = 0;
    private static final int LEAST_INT = -2147483648, MOST_INT = 2147483647;

    private final Line line;
    private final Sheets sheets;
    private final Row row;
    private final Rule[] rules;
    private final Work workRule;
    private final Guarded guardedRule;
    private final Ahead ahead;
    private final Longing store;
    private final WorstSearch search;

    public ServerLine() {
        line = new Line();
        sheets = new Sheets();
        row = new Row();
        workRule = new Work(line, 1);
        guardedRule = new Guarded(line);
        rules = new Rule[] {
            new Nearest(line, false), new Both(line), workRule, new Nearest(line, true), guardedRule
        };
        ahead = new Ahead(line);
        store = new Longing(line, ahead);
        search = new WorstSearch(line);
    }

    // ---- the line

    public int points(int n) {
        if (!isWithin(n, 1, MOST_POINTS)) {
            return BAD;
        }
        int was = line.pointCount;
        line.resizePoints(n);
        return was;
    }

    public int place(int point, int x) {
        if (!isPoint(point) || !isWithin(x, 0, MOST_PLACE)) {
            return BAD;
        }
        int was = line.places[point];
        line.places[point] = x;
        return was;
    }

    public int servers(int k) {
        if (!isWithin(k, 1, MOST_SERVERS)) {
            return BAD;
        }
        int was = line.serverCount;
        line.resizeServers(k);
        return was;
    }

    public int start(int server, int point) {
        if (!isServer(server) || !isPoint(point)) {
            return BAD;
        }
        int was = line.starts[server];
        line.starts[server] = point;
        return was;
    }

    public int factor(int f) {
        if (!isWithin(f, 1, MOST_FACTOR)) {
            return BAD;
        }
        int was = line.guardFactor;
        line.guardFactor = f;
        return was;
    }

    // ---- what is asked

    public int asked() {
        if (!readRow()) {
            return sheets.found(NULL);
        }
        return row.length;
    }

    public int cost(int rule) {
        if (!isWithin(rule, NEAREST, GUARDED)) {
            return BAD;
        }
        if (!readRow()) {
            return sheets.found(NULL);
        }
        return row.lead(rules[rule], row.length);
    }

    public int stands(int rule, int server, int t) {
        if (!isWithin(rule, NEAREST, HINTED) || !isServer(server) || !isWithin(t, 0, MOST_ITEMS)) {
            return BAD;
        }
        if (!readRow()) {
            return sheets.found(NULL);
        }
        row.lead(rules[rule], t);
        return rules[rule].at[server];
    }

    public int goes(int rule, int t) {
        boolean sendsOne = rule == NEAREST || rule == WORK || rule == HINTED;
        if (!sendsOne || !isWithin(t, 0, MOST_ITEMS - 1)) {
            return BAD;
        }
        if (!readRow()) {
            return sheets.found(NULL);
        }
        return sentAt(rules[rule], t);
    }

    public int best() {
        if (!readRow()) {
            return sheets.found(NULL);
        }
        return ahead.plan(row);
    }

    public int way(int t) {
        if (!isWithin(t, 0, MOST_ITEMS - 1)) {
            return BAD;
        }
        if (!readRow()) {
            return sheets.found(NULL);
        }
        ahead.plan(row);
        return sentAt(ahead, t);
    }

    public int share(int rule) {
        if (!isWithin(rule, NEAREST, GUARDED)) {
            return BAD;
        }
        if (!readRow()) {
            return sheets.found(NULL);
        }
        return hundredths(row.lead(rules[rule], row.length), ahead.plan(row));
    }

    public int work(int a, int b, int c, int t) {
        if (!isStandingPoint(0, a) || !isStandingPoint(1, b) || !isStandingPoint(2, c)) {
            return BAD;
        }
        if (!isWithin(t, 0, MOST_ITEMS)) {
            return BAD;
        }
        if (!readRow()) {
            return sheets.found(NULL);
        }
        row.lead(workRule, t);
        return workRule.worth(line.standingOf(a, b, c));
    }

    public int trusts(int t) {
        if (!isWithin(t, 0, MOST_ITEMS)) {
            return BAD;
        }
        if (!readRow()) {
            return sheets.found(NULL);
        }
        row.lead(guardedRule, t);
        return guardedRule.trusted;
    }

    // ---- worst rows, longing

    public int worst(int rule, int l) {
        if (!isWithin(rule, NEAREST, WORK) || !isWithin(l, 1, LONGEST_WORST)) {
            return BAD;
        }
        search.seek(rule, l);
        return search.number;
    }

    public int worstShare(int rule, int l) {
        if (!isWithin(rule, NEAREST, WORK) || !isWithin(l, 1, LONGEST_WORST)) {
            return BAD;
        }
        search.seek(rule, l);
        return hundredths(search.spent, search.least);
    }

    public int longing(int t) {
        if (!isWithin(t, 0, MOST_ITEMS)) {
            return BAD;
        }
        if (!readRow()) {
            return sheets.found(NULL);
        }
        return store.behind(row, t);
    }

    public int pays() {
        if (!readRow()) {
            return sheets.found(NULL);
        }
        return store.firstUnpaid(row);
    }

    // ---- sheets

    public int sheet(int s, int form, int n) {
        if (!isSheet(s) || !isForm(form) || n > MOST_ITEMS) {
            return BAD;
        }
        if (n < 0) {
            return sheets.found(SIZE);
        }
        sheets.renew(s, form, n);
        return n;
    }

    public int lose(int s) {
        if (!isSheet(s)) {
            return BAD;
        }
        if (sheets.isLost(s)) {
            return sheets.found(NULL);
        }
        int had = sheets.sizes[s];
        sheets.drop(s);
        return had;
    }

    public int put(int s, int form, int i, int v) {
        int refusal = itemRefusal(s, form, i);
        if (refusal != FINE) {
            return refusal;
        }
        sheets.write(s, i, v);
        return 1;
    }

    public int get(int s, int form, int i) {
        if (itemRefusal(s, form, i) != FINE) {
            return LEAST_INT;
        }
        return sheets.items[s][i];
    }

    public int copy(int s, int i, int t, int j, int n) {
        if (!isSheet(s) || !isSheet(t)) {
            return BAD;
        }
        if (sheets.isLost(s) || sheets.isLost(t)) {
            return sheets.found(NULL);
        }
        if (sheets.forms[s] != sheets.forms[t]) {
            return sheets.found(STORE);
        }
        if (!sheets.hasItems(s, i, n) || !sheets.hasItems(t, j, n)) {
            return sheets.found(INDEX);
        }
        System.arraycopy(sheets.items[s], i, sheets.items[t], j, n);
        return 1;
    }

    public int hint() {
        if (!readRow() || sheets.isLost(HINT_SHEET)) {
            return sheets.found(NULL);
        }
        ahead.plan(row);
        ahead.begin();
        int many = Math.min(sheets.sizes[HINT_SHEET], row.length);
        for (int t = 0; t < many; t++) {
            ahead.meet(row.points[t], NONE);
            sheets.write(HINT_SHEET, t, ahead.gone);
        }
        return many;
    }

    public int count(int what) {
        switch (what) {
            case 0:
                return line.pointCount;
            case 1:
                return line.serverCount;
            case 2:
                return line.guardFactor;
            case 3:
                return sheets.finding;
            case 4:
                return sheets.keptCount();
            default:
                return BAD;
        }
    }

    public long digest() {
        long h = 17;
        h = 31 * h + line.pointCount;
        h = 31 * h + line.serverCount;
        h = 31 * h + line.guardFactor;
        h = 31 * h + sheets.keptCount();
        for (int point = 0; point < line.pointCount; point++) {
            h = 31 * h + line.places[point];
        }
        for (int server = 0; server < line.serverCount; server++) {
            h = 31 * h + line.starts[server];
        }
        if (!readRow()) {
            return h;
        }
        h = 31 * h + row.length;
        for (int rule = NEAREST; rule <= GUARDED; rule++) {
            h = 31 * h + row.lead(rules[rule], row.length);
        }
        h = 31 * h + ahead.plan(row);
        return 31 * h + store.firstUnpaid(row);
    }

    // ---- what the calls share

    private static boolean isWithin(int number, int least, int most) {
        return number >= least && number <= most;
    }

    private boolean isPoint(int point) {
        return isWithin(point, 0, line.pointCount - 1);
    }

    private boolean isServer(int server) {
        return isWithin(server, 0, line.serverCount - 1);
    }

    private static boolean isSheet(int s) {
        return isWithin(s, 0, MOST_SHEETS - 1);
    }

    private static boolean isForm(int form) {
        return isWithin(form, 0, MOST_FORMS - 1);
    }

    private boolean isStandingPoint(int server, int point) {
        return isServer(server) ? isPoint(point) : isWithin(point, 0, MOST_POINTS - 1);
    }

    private boolean readRow() {
        return row.read(sheets, line);
    }

    private int sentAt(Rule rule, int t) {
        if (t >= row.length) {
            return NONE;
        }
        row.lead(rule, t + 1);
        return rule.gone;
    }

    private static int hundredths(int spent, int least) {
        return least > 0 ? spent * 100 / least : NOT;
    }

    private int itemRefusal(int s, int form, int i) {
        if (!isSheet(s) || !isForm(form)) {
            return BAD;
        }
        if (sheets.isLost(s)) {
            return sheets.found(NULL);
        }
        if (sheets.forms[s] != form) {
            return sheets.found(CAST);
        }
        if (!sheets.hasItems(s, i, 1)) {
            return sheets.found(INDEX);
        }
        return FINE;
    }

    /**
     * The points, the servers and their ways. A standing is one number, a digit by six for each
     * server, so that it needs no object; servers that are not there have 0. Standings that differ
     * only in who stands where are one crowd: tables are by crowd, as least sums are alike for them.
     */
    private static final class Line {
        int pointCount = 1;
        int serverCount = 1;
        int guardFactor = 2;
        int crowdCount;
        final int[] places = new int[MOST_POINTS];
        final int[] starts = new int[MOST_SERVERS];
        final int[] crowds = new int[MOST_STANDINGS];
        final int[] crowdStandings = new int[MOST_CROWDS];

        Line() {
            numberCrowds();
            listCrowds();
        }

        void resizePoints(int n) {
            pointCount = n;
            // What is given up is cleared now, so that it is new if it comes again.
            for (int point = n; point < MOST_POINTS; point++) {
                places[point] = 0;
            }
            for (int server = 0; server < MOST_SERVERS; server++) {
                if (starts[server] >= n) {
                    starts[server] = 0;
                }
            }
            listCrowds();
        }

        void resizeServers(int k) {
            serverCount = k;
            for (int server = k; server < MOST_SERVERS; server++) {
                starts[server] = 0;
            }
            listCrowds();
        }

        private void numberCrowds() {
            int crowd = 0;
            for (int c = 0; c < MOST_POINTS; c++) {
                for (int b = c; b < MOST_POINTS; b++) {
                    for (int a = b; a < MOST_POINTS; a++) {
                        crowds[coded(a, b, c)] = crowd;
                        crowds[coded(a, c, b)] = crowd;
                        crowds[coded(b, a, c)] = crowd;
                        crowds[coded(b, c, a)] = crowd;
                        crowds[coded(c, a, b)] = crowd;
                        crowds[coded(c, b, a)] = crowd;
                        crowd++;
                    }
                }
            }
        }

        /** One standing for each crowd that the points and servers of now can make. */
        private void listCrowds() {
            int next = 0;
            for (int c = 0; c < choicesOf(2); c++) {
                for (int b = c; b < choicesOf(1); b++) {
                    for (int a = b; a < choicesOf(0); a++) {
                        crowdStandings[next] = coded(a, b, c);
                        next++;
                    }
                }
            }
            crowdCount = next;
        }

        private int choicesOf(int server) {
            return server < serverCount ? pointCount : 1;
        }

        private static int coded(int a, int b, int c) {
            return a + 6 * b + 36 * c;
        }

        int standingOf(int a, int b, int c) {
            return coded(a, serverCount > 1 ? b : 0, serverCount > 2 ? c : 0);
        }

        int startStanding() {
            return standingOf(starts[0], starts[1], starts[2]);
        }

        static int pointOf(int standing, int server) {
            if (server == 0) {
                return standing % 6;
            }
            return server == 1 ? standing / 6 % 6 : standing / 36;
        }

        static int moved(int standing, int server, int point) {
            int by = point - pointOf(standing, server);
            if (server == 0) {
                return standing + by;
            }
            return server == 1 ? standing + 6 * by : standing + 36 * by;
        }

        int wayOf(int standing, int server, int point) {
            return Math.abs(places[pointOf(standing, server)] - places[point]);
        }

        int leastWays(int[] from, int[] to) {
            if (serverCount == 1) {
                return Math.abs(from[0] - to[0]);
            }
            if (serverCount == 2) {
                return pairWays(from[0], from[1], to[0], to[1]);
            }
            int toFirst = Math.abs(from[0] - to[0]) + pairWays(from[1], from[2], to[1], to[2]);
            int toSecond = Math.abs(from[0] - to[1]) + pairWays(from[1], from[2], to[0], to[2]);
            int toThird = Math.abs(from[0] - to[2]) + pairWays(from[1], from[2], to[0], to[1]);
            return Math.min(toFirst, Math.min(toSecond, toThird));
        }

        private static int pairWays(int a, int b, int x, int y) {
            int straight = Math.abs(a - x) + Math.abs(b - y);
            int crossed = Math.abs(a - y) + Math.abs(b - x);
            return Math.min(straight, crossed);
        }

        int waysAmong(int[] at) {
            int sum = 0;
            for (int one = 0; one < serverCount; one++) {
                for (int other = one + 1; other < serverCount; other++) {
                    sum += Math.abs(at[one] - at[other]);
                }
            }
            return sum;
        }
    }

    /** The rows that the caller fills; items are kept as ints, cut to their form when written. */
    private static final class Sheets {
        static final int LOST = -1;

        final int[][] items = new int[MOST_SHEETS][MOST_ITEMS];
        final int[] forms = {LOST, LOST, LOST, LOST};
        final int[] sizes = new int[MOST_SHEETS];
        int finding = 0;

        int found(int number) {
            finding = number;
            return -10 - number;
        }

        boolean isLost(int s) {
            return forms[s] == LOST;
        }

        int keptCount() {
            int kept = 0;
            for (int s = 0; s < MOST_SHEETS; s++) {
                if (!isLost(s)) {
                    kept++;
                }
            }
            return kept;
        }

        void renew(int s, int form, int n) {
            forms[s] = form;
            sizes[s] = n;
            for (int i = 0; i < MOST_ITEMS; i++) {
                items[s][i] = 0;
            }
        }

        void drop(int s) {
            forms[s] = LOST;
            sizes[s] = 0;
        }

        boolean hasItems(int s, int from, int n) {
            // The sum of from and n could wrap, the difference of size and n cannot.
            return from >= 0 && n >= 0 && from <= sizes[s] - n;
        }

        void write(int s, int i, int v) {
            items[s][i] = cut(forms[s], v);
        }

        private static int cut(int form, int v) {
            if (form == 0) {
                return (byte) v;
            }
            return form == 1 ? (short) v : v;
        }
    }

    /** What is asked now, with the hints, lifted from the sheets. */
    private static final class Row {
        final int[] points = new int[MOST_ITEMS];
        final int[] hints = new int[MOST_ITEMS];
        int length;

        boolean read(Sheets sheets, Line line) {
            length = 0;
            if (sheets.isLost(ASKED_SHEET)) {
                return false;
            }
            for (int i = 0; i < sheets.sizes[ASKED_SHEET]; i++) {
                int point = sheets.items[ASKED_SHEET][i];
                if (isWithin(point, 0, line.pointCount - 1)) {
                    points[length] = point;
                    hints[length] = hintAt(sheets, line, length);
                    length++;
                }
            }
            return true;
        }

        private static int hintAt(Sheets sheets, Line line, int t) {
            if (sheets.isLost(HINT_SHEET) || t >= sheets.sizes[HINT_SHEET]) {
                return NONE;
            }
            int server = sheets.items[HINT_SHEET][t];
            return isWithin(server, 0, line.serverCount - 1) ? server : NONE;
        }

        int lead(Rule rule, int t) {
            int steps = Math.min(t, length);
            rule.begin();
            for (int step = 0; step < steps; step++) {
                rule.meet(points[step], hints[step]);
            }
            return rule.spent;
        }
    }

    /** Servers that go, point by point, as a rule lets them. */
    private abstract static class Rule {
        final Line line;
        final int[] at = new int[MOST_SERVERS];
        int spent;
        int gone = NONE;

        Rule(Line line) {
            this.line = line;
        }

        void begin() {
            standAtStart();
        }

        void standAtStart() {
            for (int server = 0; server < MOST_SERVERS; server++) {
                at[server] = line.places[line.starts[server]];
            }
            spent = 0;
            gone = NONE;
        }

        abstract void meet(int point, int hint);

        void send(int server, int place) {
            spent += Math.abs(at[server] - place);
            at[server] = place;
            gone = server;
        }
    }

    /** The nearest goes; where hints are heeded, the one that is hinted goes. */
    private static final class Nearest extends Rule {
        final boolean heedsHints;

        Nearest(Line line, boolean heedsHints) {
            super(line);
            this.heedsHints = heedsHints;
        }

        void meet(int point, int hint) {
            int place = line.places[point];
            boolean follows = heedsHints && hint != NONE;
            send(follows ? hint : nearestTo(place), place);
        }

        private int nearestTo(int place) {
            int nearest = 0;
            for (int server = 1; server < line.serverCount; server++) {
                if (Math.abs(at[server] - place) < Math.abs(at[nearest] - place)) {
                    nearest = server;
                }
            }
            return nearest;
        }
    }

    /** Both neighbours are drawn in at once. */
    private static final class Both extends Rule {
        Both(Line line) {
            super(line);
        }

        void meet(int point, int hint) {
            int place = line.places[point];
            if (isServed(place)) {
                gone = NONE;
                return;
            }
            int below = nearestBelow(place);
            int above = nearestAbove(place);
            if (below != NONE && above != NONE) {
                int by = Math.min(place - at[below], at[above] - place);
                send(below, at[below] + by);
                send(above, at[above] - by);
            } else if (below != NONE) {
                send(below, place);
            } else if (above != NONE) {
                send(above, place);
            }
        }

        private boolean isServed(int place) {
            for (int server = 0; server < line.serverCount; server++) {
                if (at[server] == place) {
                    return true;
                }
            }
            return false;
        }

        private int nearestBelow(int place) {
            int nearest = NONE;
            for (int server = 0; server < line.serverCount; server++) {
                if (at[server] < place && (nearest == NONE || at[server] > at[nearest])) {
                    nearest = server;
                }
            }
            return nearest;
        }

        private int nearestAbove(int place) {
            int nearest = NONE;
            for (int server = 0; server < line.serverCount; server++) {
                if (at[server] > place && (nearest == NONE || at[server] < at[nearest])) {
                    nearest = server;
                }
            }
            return nearest;
        }
    }

    /**
     * Goes by W. The table is brought up to date late: the latest points wait, and W behind them is
     * worked out only for the standings that are looked at, as few are behind the last point.
     */
    private static final class Work extends Rule {
        final int[] late;
        int lateCount;
        int standing;
        int[] settled = new int[MOST_CROWDS];
        int[] spare = new int[MOST_CROWDS];
        final int[] aim = new int[MOST_SERVERS];

        Work(Line line, int mostLate) {
            super(line);
            late = new int[Math.max(1, mostLate)];
        }

        void begin() {
            standAtStart();
            for (int i = 0; i < line.crowdCount; i++) {
                int goal = line.crowdStandings[i];
                for (int server = 0; server < line.serverCount; server++) {
                    aim[server] = line.places[Line.pointOf(goal, server)];
                }
                settled[line.crowds[goal]] = line.leastWays(at, aim);
            }
        }

        // Without begin() the table stays: right as long as no point has been settled since.
        void standAtStart() {
            super.standAtStart();
            standing = line.startStanding();
            lateCount = 0;
        }

        int worth(int goal) {
            return worthBehind(goal, lateCount);
        }

        private int worthBehind(int goal, int count) {
            if (count <= 0) {
                return settled[line.crowds[goal]];
            }
            int point = late[count - 1];
            int least = MOST_INT;
            for (int server = 0; server < line.serverCount; server++) {
                int before = worthBehind(Line.moved(goal, server, point), count - 1);
                least = Math.min(least, before + line.wayOf(goal, server, point));
            }
            return least;
        }

        private void settle() {
            for (int i = 0; i < line.crowdCount; i++) {
                int goal = line.crowdStandings[i];
                spare[line.crowds[goal]] = worthBehind(goal, lateCount);
            }
            int[] old = settled;
            settled = spare;
            spare = old;
            lateCount = 0;
        }

        void meet(int point, int hint) {
            if (lateCount >= late.length) {
                settle();
            }
            late[lateCount] = point;
            lateCount++;
            int server = chosen(point);
            send(server, line.places[point]);
            standing = Line.moved(standing, server, point);
        }

        private int chosen(int point) {
            int chosen = 0;
            int least = MOST_INT;
            for (int server = 0; server < line.serverCount; server++) {
                int behind = worthBehind(Line.moved(standing, server, point), lateCount);
                int sum = behind + line.wayOf(standing, server, point);
                if (sum < least) {
                    least = sum;
                    chosen = server;
                }
            }
            return chosen;
        }
    }

    /** Stands as the hinted rule or rule 1 stands, whichever it trusts. */
    private static final class Guarded extends Rule {
        final Both both;
        final Nearest hinted;
        int trusted = HINTED;

        Guarded(Line line) {
            super(line);
            both = new Both(line);
            hinted = new Nearest(line, true);
        }

        void standAtStart() {
            super.standAtStart();
            both.standAtStart();
            hinted.standAtStart();
            trusted = HINTED;
        }

        void meet(int point, int hint) {
            both.meet(point, hint);
            hinted.meet(point, hint);
            if (trusted == HINTED) {
                trusted = isTooDear(hinted, both) ? BOTH : HINTED;
            } else {
                trusted = isTooDear(both, hinted) ? HINTED : BOTH;
            }
            if (trusted == HINTED) {
                standAs(hinted);
            } else {
                standAs(both);
            }
        }

        private boolean isTooDear(Rule rule, Rule other) {
            return rule.spent > line.guardFactor * other.spent;
        }

        private void standAs(Rule rule) {
            spent += line.leastWays(at, rule.at);
            for (int server = 0; server < line.serverCount; server++) {
                at[server] = rule.at[server];
            }
        }
    }

    /** A best way: planned from the last point back, then walked from the first. */
    private static final class Ahead extends Rule {
        /** The least that is still to go, behind the first t, for each crowd. */
        final int[][] toGo = new int[MOST_ITEMS + 1][MOST_CROWDS];
        int leastSum;
        int standing;
        int step;

        Ahead(Line line) {
            super(line);
        }

        int plan(Row row) {
            for (int crowd = 0; crowd < MOST_CROWDS; crowd++) {
                toGo[row.length][crowd] = 0;
            }
            for (int t = row.length - 1; t >= 0; t--) {
                planStep(t, row.points[t]);
            }
            return toGo[0][line.crowds[line.startStanding()]];
        }

        private void planStep(int t, int point) {
            for (int i = 0; i < line.crowdCount; i++) {
                int from = line.crowdStandings[i];
                chosen(t, from, point);
                toGo[t][line.crowds[from]] = leastSum;
            }
        }

        // Of like servers the least is chosen, so the row walked from the first point is the least.
        private int chosen(int t, int from, int point) {
            int chosen = 0;
            leastSum = MOST_INT;
            for (int server = 0; server < line.serverCount; server++) {
                int behind = toGo[t + 1][line.crowds[Line.moved(from, server, point)]];
                int sum = behind + line.wayOf(from, server, point);
                if (sum < leastSum) {
                    leastSum = sum;
                    chosen = server;
                }
            }
            return chosen;
        }

        void standAtStart() {
            super.standAtStart();
            standing = line.startStanding();
            step = 0;
        }

        void meet(int point, int hint) {
            if (step >= MOST_ITEMS) {
                return;
            }
            int server = chosen(step, standing, point);
            send(server, line.places[point]);
            standing = Line.moved(standing, server, point);
            step++;
        }
    }

    /** The store of longing, rule 1 beside a best way. */
    private static final class Longing {
        final Line line;
        final Both both;
        final Ahead ahead;

        Longing(Line line, Ahead ahead) {
            this.line = line;
            this.ahead = ahead;
            both = new Both(line);
        }

        int behind(Row row, int t) {
            ahead.plan(row);
            row.lead(ahead, t);
            row.lead(both, t);
            return stored();
        }

        int firstUnpaid(Row row) {
            ahead.plan(row);
            ahead.begin();
            both.begin();
            for (int t = 0; t < row.length; t++) {
                if (!paysAt(row.points[t])) {
                    return t;
                }
            }
            return NONE;
        }

        private boolean paysAt(int point) {
            int before = stored() + both.spent;
            int aheadBefore = ahead.spent;
            both.meet(point, NONE);
            ahead.meet(point, NONE);
            int grown = stored() + both.spent - before;
            return grown <= line.serverCount * (ahead.spent - aheadBefore);
        }

        private int stored() {
            return line.serverCount * line.leastWays(both.at, ahead.at) + line.waysAmong(both.at);
        }
    }

    /** Looks through all rows of a length for the one that is dearest by its best. */
    private static final class WorstSearch {
        final Line line;
        final Rule[] tried;
        final int[] points = new int[LONGEST_WORST];
        final int[] at = new int[MOST_SERVERS];
        int number = NONE;
        int spent;
        int least;

        WorstSearch(Line line) {
            this.line = line;
            // No row is longer than what may be late, so W at the start serves all rows.
            tried = new Rule[] {
                new Nearest(line, false), new Both(line), new Work(line, LONGEST_WORST)
            };
        }

        void seek(int rule, int length) {
            number = NONE;
            spent = 0;
            least = 0;
            for (int t = 0; t < LONGEST_WORST; t++) {
                points[t] = 0;
            }
            tried[rule].begin();
            for (int row = 0; row < MOST_ROWS; row++) {
                weigh(tried[rule], length, row);
                if (!turnToNextRow(length)) {
                    break;
                }
            }
        }

        private boolean turnToNextRow(int length) {
            for (int t = length - 1; t >= 0; t--) {
                if (points[t] < line.pointCount - 1) {
                    points[t]++;
                    return true;
                }
                points[t] = 0;
            }
            return false;
        }

        private void weigh(Rule rule, int length, int row) {
            for (int server = 0; server < line.serverCount; server++) {
                at[server] = line.places[line.starts[server]];
            }
            int bestHere = leastFrom(0, length);
            if (bestHere <= 0) {
                return;
            }
            rule.standAtStart();
            for (int t = 0; t < length; t++) {
                rule.meet(points[t], NONE);
            }
            if (number == NONE || rule.spent * least > spent * bestHere) {
                number = row;
                spent = rule.spent;
                least = bestHere;
            }
        }

        private int leastFrom(int t, int length) {
            if (t >= length) {
                return 0;
            }
            int place = line.places[points[t]];
            int leastHere = MOST_INT;
            for (int server = 0; server < line.serverCount; server++) {
                int was = at[server];
                at[server] = place;
                leastHere = Math.min(leastHere, Math.abs(was - place) + leastFrom(t + 1, length));
                at[server] = was;
            }
            return leastHere;
        }
    }
}
