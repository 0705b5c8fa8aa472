import java.util.ArrayList;
import java.util.HashMap;
import java.util.List;
import java.util.Map;

/**
 * The document read slowly and plainly, as a second opinion: real arrays as sheets, whose findings
 * are the machine's own exceptions, all orders tried one by one, and maps instead of tables.
 */
final class Model {
    private final List<Integer> places = new ArrayList<>(List.of(0));
    private final List<Integer> starts = new ArrayList<>(List.of(0));
    private int factor = 2;
    private int finding = 0;
    private final Object[] sheets = new Object[4];

    // ---- the line

    int points(int n) {
        if (n < 1 || n > 6) return -2;
        int was = places.size();
        while (places.size() > n) places.remove(places.size() - 1);
        while (places.size() < n) places.add(0);
        for (int s = 0; s < starts.size(); s++) if (starts.get(s) >= n) starts.set(s, 0);
        return was;
    }

    int place(int point, int x) {
        if (point < 0 || point >= places.size() || x < 0 || x > 1000) return -2;
        return places.set(point, x);
    }

    int servers(int k) {
        if (k < 1 || k > 3) return -2;
        int was = starts.size();
        while (starts.size() > k) starts.remove(starts.size() - 1);
        while (starts.size() < k) starts.add(0);
        return was;
    }

    int start(int server, int point) {
        if (server < 0 || server >= starts.size() || point < 0 || point >= places.size()) return -2;
        return starts.set(server, point);
    }

    int factor(int f) {
        if (f < 1 || f > 9) return -2;
        int was = factor;
        factor = f;
        return was;
    }

    // ---- helpers

    private int found(int number) {
        finding = number;
        return -10 - number;
    }

    private static int length(Object sheet) {
        return java.lang.reflect.Array.getLength(sheet);
    }

    private static int item(Object sheet, int i) {
        return java.lang.reflect.Array.getInt(sheet, i);
    }

    private List<Integer> row() {
        List<Integer> row = new ArrayList<>();
        for (int i = 0; i < length(sheets[0]); i++) {
            int point = item(sheets[0], i);
            if (point >= 0 && point < places.size()) row.add(point);
        }
        return row;
    }

    private int hintOf(int t) {
        if (sheets[1] == null || t >= length(sheets[1])) return -1;
        int server = item(sheets[1], t);
        return server >= 0 && server < starts.size() ? server : -1;
    }

    private List<Integer> startPlaces() {
        return placesOf(starts);
    }

    private List<Integer> placesOf(List<Integer> standing) {
        List<Integer> at = new ArrayList<>();
        for (int point : standing) at.add(places.get(point));
        return at;
    }

    /** All orders of whoever to whoever. */
    static int matching(List<Integer> from, List<Integer> to) {
        if (from.isEmpty()) return 0;
        int least = Integer.MAX_VALUE;
        for (int j = 0; j < to.size(); j++) {
            List<Integer> rest = new ArrayList<>(to);
            int other = rest.remove(j);
            int sum = Math.abs(from.get(0) - other) + matching(from.subList(1, from.size()), rest);
            least = Math.min(least, sum);
        }
        return least;
    }

    private static List<Integer> with(List<Integer> row, int index, int value) {
        List<Integer> changed = new ArrayList<>(row);
        changed.set(index, value);
        return changed;
    }

    private static <T> T behind(List<T> history, int t) {
        return history.get(Math.min(t, history.size() - 1));
    }

    /** What happened by a rule: standing, cost and trust behind each t, and who went at each t. */
    private static final class Story {
        final List<List<Integer>> at = new ArrayList<>();
        final List<Integer> cost = new ArrayList<>();
        final List<Integer> gone = new ArrayList<>();
        final List<Integer> trust = new ArrayList<>();

        void note(List<Integer> standing, int spent) {
            at.add(standing);
            cost.add(spent);
        }

        int total() {
            return cost.get(cost.size() - 1);
        }
    }

    private Story story(int rule, List<Integer> row) {
        switch (rule) {
            case 0: return single(row, false);
            case 1: return both(row);
            case 2: return byWork(row);
            case 3: return single(row, true);
            default: return guarded(row);
        }
    }

    private Story single(List<Integer> row, boolean hints) {
        Story story = new Story();
        List<Integer> at = startPlaces();
        int spent = 0;
        story.note(at, spent);
        for (int t = 0; t < row.size(); t++) {
            int place = places.get(row.get(t));
            int server = hints ? hintOf(t) : -1;
            if (server < 0) {
                server = 0;
                for (int s = 0; s < at.size(); s++) {
                    if (Math.abs(at.get(s) - place) < Math.abs(at.get(server) - place)) server = s;
                }
            }
            spent += Math.abs(at.get(server) - place);
            at = with(at, server, place);
            story.gone.add(server);
            story.note(at, spent);
        }
        return story;
    }

    private Story both(List<Integer> row) {
        Story story = new Story();
        List<Integer> at = startPlaces();
        int spent = 0;
        story.note(at, spent);
        for (int point : row) {
            int place = places.get(point);
            if (!at.contains(place)) {
                int below = -1;
                int above = -1;
                for (int way = 1; way <= 1000; way++) {
                    if (below < 0) below = at.indexOf(place - way);
                    if (above < 0) above = at.indexOf(place + way);
                }
                int by = Integer.MAX_VALUE;
                if (below >= 0) by = Math.min(by, place - at.get(below));
                if (above >= 0) by = Math.min(by, at.get(above) - place);
                if (below >= 0) {
                    at = with(at, below, at.get(below) + by);
                    spent += by;
                }
                if (above >= 0) {
                    at = with(at, above, at.get(above) - by);
                    spent += by;
                }
            }
            story.note(at, spent);
        }
        return story;
    }

    private int workOf(List<Integer> standing, List<Integer> row, int t, Map<List<Integer>, Integer> known) {
        if (t == 0) return matching(startPlaces(), placesOf(standing));
        List<Integer> key = new ArrayList<>(standing);
        key.add(t);
        Integer had = known.get(key);
        if (had != null) return had;
        int point = row.get(t - 1);
        int least = Integer.MAX_VALUE;
        for (int s = 0; s < standing.size(); s++) {
            int way = Math.abs(places.get(standing.get(s)) - places.get(point));
            least = Math.min(least, workOf(with(standing, s, point), row, t - 1, known) + way);
        }
        known.put(key, least);
        return least;
    }

    private Story byWork(List<Integer> row) {
        Story story = new Story();
        Map<List<Integer>, Integer> known = new HashMap<>();
        List<Integer> standing = new ArrayList<>(starts);
        int spent = 0;
        story.note(placesOf(standing), spent);
        for (int t = 0; t < row.size(); t++) {
            int point = row.get(t);
            int least = Integer.MAX_VALUE;
            int chosen = -1;
            for (int s = standing.size() - 1; s >= 0; s--) {
                int way = Math.abs(places.get(standing.get(s)) - places.get(point));
                int sum = workOf(with(standing, s, point), row, t + 1, known) + way;
                if (sum <= least) {
                    least = sum;
                    chosen = s;
                }
            }
            spent += Math.abs(places.get(standing.get(chosen)) - places.get(point));
            standing = with(standing, chosen, point);
            story.gone.add(chosen);
            story.note(placesOf(standing), spent);
        }
        return story;
    }

    private Story guarded(List<Integer> row) {
        Story one = story(1, row);
        Story three = story(3, row);
        Story story = new Story();
        int trust = 3;
        int spent = 0;
        story.note(startPlaces(), spent);
        story.trust.add(trust);
        for (int t = 1; t <= row.size(); t++) {
            Story held = trust == 3 ? three : one;
            Story other = trust == 3 ? one : three;
            if (held.cost.get(t) > factor * other.cost.get(t)) trust = 4 - trust;
            List<Integer> aim = (trust == 3 ? three : one).at.get(t);
            spent += matching(story.at.get(t - 1), aim);
            story.note(aim, spent);
            story.trust.add(trust);
        }
        return story;
    }

    private int leastFrom(List<Integer> at, List<Integer> row, int t, Map<List<Integer>, Integer> known) {
        if (t == row.size()) return 0;
        List<Integer> key = new ArrayList<>(at);
        key.add(t);
        Integer had = known.get(key);
        if (had != null) return had;
        int place = places.get(row.get(t));
        int least = Integer.MAX_VALUE;
        for (int s = 0; s < at.size(); s++) {
            int way = Math.abs(at.get(s) - place);
            least = Math.min(least, way + leastFrom(with(at, s, place), row, t + 1, known));
        }
        known.put(key, least);
        return least;
    }

    private Story bestWay(List<Integer> row) {
        return row.size() <= 5 ? bestOfAllWays(row) : bestByMap(row);
    }

    private Story bestByMap(List<Integer> row) {
        Map<List<Integer>, Integer> known = new HashMap<>();
        Story story = new Story();
        List<Integer> at = startPlaces();
        int whole = leastFrom(at, row, 0, known);
        int spent = 0;
        story.note(at, spent);
        for (int t = 0; t < row.size(); t++) {
            int place = places.get(row.get(t));
            for (int s = 0; s < at.size(); s++) {
                int way = Math.abs(at.get(s) - place);
                List<Integer> next = with(at, s, place);
                if (spent + way + leastFrom(next, row, t + 1, known) == whole) {
                    spent += way;
                    at = next;
                    story.gone.add(s);
                    story.note(at, spent);
                    break;
                }
            }
        }
        return story;
    }

    /** Every row of servers, the least first; the first with the least cost stays. */
    private Story bestOfAllWays(List<Integer> row) {
        int k = starts.size();
        int many = 1;
        for (int t = 0; t < row.size(); t++) many *= k;
        Story best = null;
        for (int number = 0; number < many; number++) {
            Story story = new Story();
            List<Integer> at = startPlaces();
            int spent = 0;
            story.note(at, spent);
            int unit = many;
            for (int point : row) {
                unit /= k;
                int server = number / unit % k;
                spent += Math.abs(at.get(server) - places.get(point));
                at = with(at, server, places.get(point));
                story.gone.add(server);
                story.note(at, spent);
            }
            if (best == null || spent < best.total()) best = story;
        }
        return best;
    }

    // ---- what is asked

    int asked() {
        return sheets[0] == null ? found(1) : row().size();
    }

    int cost(int rule) {
        if (rule < 0 || rule > 4) return -2;
        return sheets[0] == null ? found(1) : story(rule, row()).total();
    }

    int stands(int rule, int server, int t) {
        if (rule < 0 || rule > 3 || server < 0 || server >= starts.size() || t < 0 || t > 40) return -2;
        return sheets[0] == null ? found(1) : behind(story(rule, row()).at, t).get(server);
    }

    int goes(int rule, int t) {
        if (rule != 0 && rule != 2 && rule != 3 || t < 0 || t > 39) return -2;
        if (sheets[0] == null) return found(1);
        return t < row().size() ? story(rule, row()).gone.get(t) : -1;
    }

    int best() {
        return sheets[0] == null ? found(1) : bestWay(row()).total();
    }

    int way(int t) {
        if (t < 0 || t > 39) return -2;
        if (sheets[0] == null) return found(1);
        return t < row().size() ? bestWay(row()).gone.get(t) : -1;
    }

    int share(int rule) {
        if (rule < 0 || rule > 4) return -2;
        if (sheets[0] == null) return found(1);
        return best() == 0 ? -3 : (int) (100L * cost(rule) / best());
    }

    int work(int a, int b, int c, int t) {
        int[] given = {a, b, c};
        List<Integer> standing = new ArrayList<>();
        for (int s = 0; s < 3; s++) {
            int most = s < starts.size() ? places.size() - 1 : 5;
            if (given[s] < 0 || given[s] > most) return -2;
            if (s < starts.size()) standing.add(given[s]);
        }
        if (t < 0 || t > 40) return -2;
        if (sheets[0] == null) return found(1);
        return workOf(standing, row(), Math.min(t, row().size()), new HashMap<>());
    }

    int trusts(int t) {
        if (t < 0 || t > 40) return -2;
        return sheets[0] == null ? found(1) : behind(story(4, row()).trust, t);
    }

    // ---- worst rows, longing

    private int[] worstOf(int rule, int l) {
        int n = places.size();
        int many = 1;
        for (int t = 0; t < l; t++) many *= n;
        int[] worst = null;
        // From the greatest number down, so that of like ones the least comes last.
        for (int number = many - 1; number >= 0; number--) {
            List<Integer> row = new ArrayList<>();
            for (int rest = number, t = 0; t < l; t++, rest /= n) row.add(0, rest % n);
            int least = bestOfAllWays(row).total();
            int spent = story(rule, row).total();
            if (least > 0 && (worst == null || (long) spent * worst[2] >= (long) worst[1] * least)) {
                worst = new int[] {number, spent, least};
            }
        }
        return worst;
    }

    int worst(int rule, int l) {
        if (rule < 0 || rule > 2 || l < 1 || l > 3) return -2;
        int[] worst = worstOf(rule, l);
        return worst == null ? -1 : worst[0];
    }

    int worstShare(int rule, int l) {
        if (rule < 0 || rule > 2 || l < 1 || l > 3) return -2;
        int[] worst = worstOf(rule, l);
        return worst == null ? -3 : worst[1] * 100 / worst[2];
    }

    private int longingOf(List<Integer> own, List<Integer> others) {
        int sum = starts.size() * matching(own, others);
        for (int i = 0; i < own.size(); i++) {
            for (int j = 0; j < i; j++) sum += Math.abs(own.get(i) - own.get(j));
        }
        return sum;
    }

    int longing(int t) {
        if (t < 0 || t > 40) return -2;
        if (sheets[0] == null) return found(1);
        return longingOf(behind(both(row()).at, t), behind(bestWay(row()).at, t));
    }

    int pays() {
        if (sheets[0] == null) return found(1);
        Story own = both(row());
        Story other = bestWay(row());
        for (int t = 0; t < row().size(); t++) {
            int went = own.cost.get(t + 1) - own.cost.get(t);
            int before = longingOf(own.at.get(t), other.at.get(t));
            int after = longingOf(own.at.get(t + 1), other.at.get(t + 1));
            int step = other.cost.get(t + 1) - other.cost.get(t);
            if (went + after - before > starts.size() * step) return t;
        }
        return -1;
    }

    // ---- sheets

    int sheet(int s, int form, int n) {
        if (s < 0 || s > 3 || form < 0 || form > 2 || n > 40) return -2;
        try {
            sheets[s] = form == 0 ? new byte[n] : form == 1 ? new short[n] : (Object) new int[n];
            return n;
        } catch (NegativeArraySizeException e) {
            return found(5);
        }
    }

    int lose(int s) {
        if (s < 0 || s > 3) return -2;
        if (sheets[s] == null) return found(1);
        int had = length(sheets[s]);
        sheets[s] = null;
        return had;
    }

    int put(int s, int form, int i, int v) {
        if (s < 0 || s > 3 || form < 0 || form > 2) return -2;
        try {
            if (form == 0) {
                ((byte[]) sheets[s])[i] = (byte) v;
            } else if (form == 1) {
                ((short[]) sheets[s])[i] = (short) v;
            } else {
                ((int[]) sheets[s])[i] = v;
            }
            return 1;
        } catch (NullPointerException e) {
            return found(1);
        } catch (ClassCastException e) {
            return found(3);
        } catch (ArrayIndexOutOfBoundsException e) {
            return found(2);
        }
    }

    int get(int s, int form, int i) {
        if (s < 0 || s > 3 || form < 0 || form > 2) return Integer.MIN_VALUE;
        try {
            if (form == 0) return ((byte[]) sheets[s])[i];
            if (form == 1) return ((short[]) sheets[s])[i];
            return ((int[]) sheets[s])[i];
        } catch (NullPointerException e) {
            found(1);
        } catch (ClassCastException e) {
            found(3);
        } catch (ArrayIndexOutOfBoundsException e) {
            found(2);
        }
        return Integer.MIN_VALUE;
    }

    int copy(int s, int i, int t, int j, int n) {
        if (s < 0 || s > 3 || t < 0 || t > 3) return -2;
        try {
            System.arraycopy(sheets[s], i, sheets[t], j, n);
            return 1;
        } catch (NullPointerException e) {
            return found(1);
        } catch (ArrayStoreException e) {
            return found(4);
        } catch (IndexOutOfBoundsException e) {
            return found(2);
        }
    }

    int hint() {
        if (sheets[0] == null || sheets[1] == null) return found(1);
        List<Integer> gone = bestWay(row()).gone;
        int many = Math.min(gone.size(), length(sheets[1]));
        for (int t = 0; t < many; t++) {
            java.lang.reflect.Array.setByte(sheets[1], t, gone.get(t).byteValue());
        }
        return many;
    }

    int count(int what) {
        int kept = 0;
        for (Object sheet : sheets) if (sheet != null) kept++;
        int[] counts = {places.size(), starts.size(), factor, finding, kept};
        return what < 0 || what > 4 ? -2 : counts[what];
    }

    long digest() {
        List<Integer> all = new ArrayList<>(List.of(count(0), count(1), count(2), count(4)));
        all.addAll(places);
        all.addAll(starts);
        if (sheets[0] != null) {
            all.add(asked());
            for (int rule = 0; rule <= 4; rule++) all.add(cost(rule));
            all.add(best());
            all.add(pays());
        }
        long h = 17;
        for (int number : all) h = 31 * h + number;
        return h;
    }
}
