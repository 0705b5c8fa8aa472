import java.util.Random;

/** Long runs of mixed calls, each answer held against Model's; the seeds are fixed. */
public final class ModelTest {
    private static final int RUNS = 400;
    /** What an object answers behind so many calls is free. */
    private static final int MOST_CALLS = 512;
    private static final int MOST_TURNS = 1000;
    private static final int KINDS = 26;

    private final Random random;
    private final Check check;
    private final ServerLine x = new ServerLine();
    private final Model model = new Model();
    /** In half of the runs places are close together, so that ways are often alike. */
    private final int farthest;
    private final String name;
    private int made = 0;

    private ModelTest(Check check, int seed) {
        this.check = check;
        random = new Random(seed);
        farthest = random.nextBoolean() ? 1000 : 6;
        name = "run " + seed + ": ";
    }

    public static void main(String[] args) {
        Check check = new Check();
        for (int seed = 0; seed < RUNS && check.isClean(); seed++) {
            new ModelTest(check, seed).run();
        }
        check.end();
    }

    private void run() {
        settle();
        // A turn makes three calls at most, and the digest is one more.
        for (int i = 0; i < MOST_TURNS && made < MOST_CALLS - 3 && check.isClean(); i++) {
            callOne(random.nextInt(KINDS + 8));
            due("count(3)", x.count(3), model.count(3));
        }
        due("digest()", x.digest(), model.digest());
    }

    /** Begins with a whole line and filled sheets, as single calls would seldom come so far. */
    private void settle() {
        int n = 1 + random.nextInt(6);
        int k = 1 + random.nextInt(3);
        due("points", x.points(n), model.points(n));
        due("servers", x.servers(k), model.servers(k));
        for (int p = 0; p < n; p++) placeOne(p, random.nextInt(farthest + 1));
        for (int s = 0; s < k; s++) startOne(s, random.nextInt(n));
        for (int s = 0; s < 2; s++) {
            int form = random.nextInt(3);
            int size = random.nextInt(random.nextBoolean() ? 41 : 8);
            due("sheet", x.sheet(s, form, size), model.sheet(s, form, size));
            for (int i = 0; i < size; i++) {
                int v = random.nextInt(s == 0 ? n : k + 1);
                due("put", x.put(s, form, i, v), model.put(s, form, i, v));
            }
        }
    }

    private void due(String call, long got, long want) {
        made++;
        check.due(name + call, got, want);
    }

    private void placeOne(int point, int at) {
        due("place", x.place(point, at), model.place(point, at));
    }

    private void startOne(int server, int point) {
        due("start", x.start(server, point), model.start(server, point));
    }

    /** Mostly within 0 to most, now and then at or beyond the edges. */
    private int about(int most) {
        switch (random.nextInt(40)) {
            case 0: return -1;
            case 1: return most + 1;
            case 2: return random.nextBoolean() ? Integer.MIN_VALUE : Integer.MAX_VALUE;
            case 3: return most;
            default: return random.nextInt(most + 1);
        }
    }

    private void callOne(int kind) {
        int a = about(5);
        int b = about(2);
        int c = about(4);
        int t = about(random.nextBoolean() ? 40 : 8);
        switch (kind) {
            case 0: if (random.nextInt(4) == 0) due("points", x.points(a), model.points(a)); break;
            case 1: placeOne(a, about(farthest)); break;
            case 2: if (random.nextInt(4) == 0) due("servers", x.servers(b), model.servers(b)); break;
            case 3: startOne(b, a); break;
            case 4: int f = about(9); due("factor", x.factor(f), model.factor(f)); break;
            case 5: due("asked()", x.asked(), model.asked()); break;
            case 6: due("cost " + c, x.cost(c), model.cost(c)); break;
            case 7: due("stands " + c, x.stands(c, b, t), model.stands(c, b, t)); break;
            case 8: due("goes " + c, x.goes(c, t), model.goes(c, t)); break;
            case 9: due("best()", x.best(), model.best()); break;
            case 10: due("way " + t, x.way(t), model.way(t)); break;
            case 11: due("share " + c, x.share(c), model.share(c)); break;
            case 12: int d = about(5); int e = about(5);
                due("work", x.work(a, d, e, t), model.work(a, d, e, t)); break;
            case 13: due("trusts " + t, x.trusts(t), model.trusts(t)); break;
            case 14: if (random.nextInt(20) == 0) worstOne(b, about(3)); break;
            case 15: due("longing " + t, x.longing(t), model.longing(t)); break;
            case 16: due("pays()", x.pays(), model.pays()); break;
            case 17: due("digest()", x.digest(), model.digest()); break;
            case 18: due("count " + c, x.count(c), model.count(c)); break;
            case 19: if (random.nextInt(4) == 0) due("hint()", x.hint(), model.hint()); break;
            default: callSheets(kind); break;
        }
    }

    private void worstOne(int rule, int l) {
        due("worst " + rule + " " + l, x.worst(rule, l), model.worst(rule, l));
        due("worstShare " + rule + " " + l, x.worstShare(rule, l), model.worstShare(rule, l));
    }

    private void callSheets(int kind) {
        int s = random.nextInt(3) == 0 ? about(3) : random.nextInt(2);
        int other = random.nextInt(3) == 0 ? about(3) : random.nextInt(2);
        int form = about(2);
        int i = about(12);
        int j = about(12);
        int v = random.nextInt(6) == 0 ? random.nextInt() : about(5);
        switch (kind) {
            case 20: case 21:
                if (random.nextInt(3) == 0) {
                    int n = about(40);
                    due("sheet", x.sheet(s, form, n), model.sheet(s, form, n));
                }
                break;
            case 22: if (random.nextInt(6) == 0) due("lose", x.lose(s), model.lose(s)); break;
            case 23: due("get", x.get(s, form, i), model.get(s, form, i)); break;
            case 24: int n = about(6);
                due("copy", x.copy(s, i, other, j, n), model.copy(s, i, other, j, n)); break;
            default: due("put", x.put(s, form, i, v), model.put(s, form, i, v)); break;
        }
    }
}
