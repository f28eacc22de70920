import java.util.ArrayDeque;
import java.util.ArrayList;
import java.util.Arrays;
import java.util.Collections;
import java.util.Deque;
import java.util.HashMap;
import java.util.List;
import java.util.Map;
import java.util.TreeMap;

/**
 * A slow model of the document, written from its words alone: it keeps nothing that can be worked out,
 * and takes null for what is not there. A call is given by its name and its numbers.
 */
final class PlainValley {
    private static final int BAD = -1, STATE = -2, FULL = -3, NONE = -4;

    /** What undo() brings back. A road is held under the list of its two villages, the lesser first. */
    private static final class State {
        List<Integer> loaves = new ArrayList<>();
        Map<List<Integer>, Integer> roads = new HashMap<>();
        List<List<Integer>> places = new ArrayList<>();
        int number = 3;

        State copy() {
            State other = new State();
            other.loaves.addAll(loaves);
            other.roads.putAll(roads);
            other.places.addAll(places);
            other.number = number;
            return other;
        }

        boolean like(State o) {
            return loaves.equals(o.loaves) && roads.equals(o.roads) && places.equals(o.places) && number == o.number;
        }
    }

    private State now = new State();
    private final Deque<State> past = new ArrayDeque<>();
    private final List<Long> prices = new ArrayList<>();
    private final Object[] maps = new Object[4];
    private int moves = 0;
    private long highest = 0;

    long call(String name, long[] a) {
        int x = a.length > 0 ? (int) a[0] : 0;
        int y = a.length > 1 ? (int) a[1] : 0;
        int z = a.length > 2 ? (int) a[2] : 0;
        State before = now.copy();
        carriedWays = null;
        long answer = switch (name) {
            case "village" -> village(x);
            case "loaves" -> loaves(x, y);
            case "road" -> road(x, y, z);
            case "place" -> place(x, y, z);
            case "reach" -> reach(x, y);
            case "number" -> number(x);
            case "draw" -> draw(x, y, z);
            default -> look(name, a, x, y, z);
        };
        if (!before.like(now) && !name.equals("undo")) {
            past.addLast(before);
            if (past.size() > 10) {
                past.removeFirst();
            }
        }
        return answer;
    }

    private long look(String name, long[] a, int x, int y, int z) {
        return switch (name) {
            case "map" -> map(x, y, z);
            case "lay" -> lay(x, y, a[2]);
            case "apart" -> noVillage(x) || noVillage(y) ? BAD : orNone(apart(x, y));
            case "way" -> way(x, y, z);
            case "allowed" -> noChoice(x) ? BAD : allowed(x) ? 1 : 0;
            case "cost" -> noChoice(x) ? BAD : hungry(x) > 0 ? NONE : servedCost(x);
            case "served" -> noChoice(x) || noVillage(y) ? BAD : orNone(server(x, y));
            case "share" -> share(x, y, z);
            case "least" -> leastOrNone(costs(0, -1));
            case "best" -> first(costs(0, -1));
            case "many" -> bests(costs(0, -1)).size();
            case "every" -> every(x);
            case "second" -> noChoice(x) ? BAD : first(costs(0, x));
            case "lose" -> lose(x);
            case "worst" -> worst();
            case "farthest" -> nearest() == NONE ? NONE : Collections.min(fars().values());
            case "nearest" -> nearest();
            case "added" -> added();
            case "changed" -> changed(x);
            case "moves" -> moves;
            case "price" -> price(x, y);
            case "priced" -> noVillage(x) ? 0 : prices.get(x);
            case "gives" -> noPlace(x) || noVillage(y) ? BAD : gives(x, y);
            case "worth" -> noPlace(x) ? 0 : worth(x);
            case "bound" -> top() == null ? NONE : bound();
            case "climb" -> climb(x, y);
            case "highest" -> highest;
            case "undo" -> undo();
            case "count" -> count(x);
            default -> throw new IllegalArgumentException(name);
        };
    }

    private boolean out(long n, long least, long most) {
        return n < least || n > most;
    }

    private boolean noVillage(long v) {
        return out(v, 0, now.loaves.size() - 1);
    }

    private boolean noPlace(long p) {
        return out(p, 0, now.places.size() - 1);
    }

    private boolean noChoice(int choice) {
        return choice < 0 || choice >= Math.pow(2, now.places.size());
    }

    private static long orNone(Integer n) {
        return n == null ? NONE : n;
    }

    private int village(int n) {
        if (out(n, 0, 1000)) return BAD;
        if (now.loaves.size() == 12) return FULL;
        now.loaves.add(n);
        prices.add(0L);
        return now.loaves.size() - 1;
    }

    private int loaves(int v, int n) {
        return noVillage(v) || out(n, 0, 1000) ? BAD : now.loaves.set(v, n);
    }

    private Integer length(int a, int b) {
        return now.roads.get(List.of(Math.min(a, b), Math.max(a, b)));
    }

    private int road(long a, long b, long length) {
        if (noVillage(a) || noVillage(b) || a == b || out(length, 0, 1000)) return BAD;
        Integer was = length((int) a, (int) b);
        List<Integer> key = List.of((int) Math.min(a, b), (int) Math.max(a, b));
        now.roads.remove(key);
        if (length > 0) now.roads.put(key, (int) length);
        return was == null ? 0 : was;
    }

    /** A place: village, kind, build, reach. */
    private int place(int village, int kind, int build) {
        if (noVillage(village) || out(kind, 0, 4) || out(build, 0, 100000)) return BAD;
        if (now.places.size() == 10) return FULL;
        now.places.add(List.of(village, kind, build, 20));
        return now.places.size() - 1;
    }

    private int kind(int p) {
        return now.places.get(p).get(1);
    }

    private int reach(int p, int n) {
        if (noPlace(p) || out(n, 0, 12000)) return BAD;
        if (kind(p) != 4) return STATE;
        List<Integer> was = now.places.get(p);
        now.places.set(p, List.of(was.get(0), was.get(1), was.get(2), n));
        return was.get(3);
    }

    private int number(int n) {
        if (out(n, 0, 20)) return BAD;
        int was = now.number;
        now.number = n;
        return was;
    }

    private int map(int k, int lane, int n) {
        if (out(k, 0, 3) || out(lane, 0, 2) || n > 60) return BAD;
        if (n < 0) return -14;
        maps[k] = lane == 0 ? new byte[n] : lane == 1 ? new int[n] : (Object) new long[n];
        return 1;
    }

    private int lay(int k, int i, long v) {
        if (out(k, 0, 3)) return BAD;
        if (maps[k] == null) return -11;
        try {
            if (maps[k] instanceof byte[] row) row[i] = (byte) v;
            else if (maps[k] instanceof int[] row) row[i] = (int) v;
            else ((long[]) maps[k])[i] = v;
        } catch (ArrayIndexOutOfBoundsException e) {
            return -12;
        }
        return 1;
    }

    private int draw(int k, int lane, int n) {
        if (out(k, 0, 3) || out(lane, 0, 2) || n < 0) return BAD;
        if (maps[k] == null) return -11;
        Class<?> type = lane == 0 ? byte[].class : lane == 1 ? int[].class : long[].class;
        if (!type.isInstance(maps[k])) return -13;
        State before = now.copy();
        for (int r = 0; r < n; r++) {
            int answer;
            try {
                answer = road(cell(k, 3 * r), cell(k, 3 * r + 1), cell(k, 3 * r + 2));
            } catch (ArrayIndexOutOfBoundsException e) {
                now = before;
                return -12;
            }
            if (answer < 0) {
                now = before;
                return -20 + answer;
            }
        }
        return n;
    }

    private long cell(int k, int i) {
        if (maps[k] instanceof byte[] row) return row[i];
        return maps[k] instanceof int[] row ? row[i] : ((long[]) maps[k])[i];
    }

    /** By rounds over all roads, as long as one of them shortens a way. */
    private Integer apart(int a, int b) {
        Integer[] ways = new Integer[now.loaves.size()];
        ways[a] = 0;
        for (boolean again = true; again;) {
            again = false;
            for (Map.Entry<List<Integer>, Integer> road : now.roads.entrySet()) {
                int one = road.getKey().get(0);
                int two = road.getKey().get(1);
                again |= shorten(ways, one, two, road.getValue()) | shorten(ways, two, one, road.getValue());
            }
        }
        return ways[b];
    }

    private static boolean shorten(Integer[] ways, int from, int to, int length) {
        if (ways[from] == null || ways[to] != null && ways[to] <= ways[from] + length) return false;
        ways[to] = ways[from] + length;
        return true;
    }

    private int way(int a, int b, int i) {
        if (noVillage(a) || noVillage(b) || i < 0) return BAD;
        if (apart(a, b) == null) return NONE;
        List<Integer> way = new ArrayList<>(List.of(a));
        while (way.get(way.size() - 1) != b) {
            int here = way.get(way.size() - 1);
            int next = 0;
            while (length(here, next) == null || apart(next, b) == null
                || length(here, next) + apart(next, b) != (int) apart(here, b)) next++;
            way.add(next);
        }
        return i < way.size() ? way.get(i) : NONE;
    }

    private boolean in(int choice, int p) {
        return (choice >> p) % 2 == 1;
    }

    private boolean allowed(int choice) {
        int counted = 0;
        for (int p = 0; p < now.places.size(); p++) {
            if (kind(p) == 3 && !in(choice, p)) return false;
            if (in(choice, p)) counted += kind(p) == 1 ? 2 : 1;
        }
        return counted <= now.number;
    }

    /** Kept only for the time of one call: all choices ask for the same ways over and over. */
    private Integer[][] carriedWays = null;

    private Integer carried(int p, int v) {
        if (carriedWays == null) {
            carriedWays = new Integer[now.places.size()][now.loaves.size()];
            for (int q = 0; q < carriedWays.length; q++) {
                for (int w = 0; w < now.loaves.size(); w++) carriedWays[q][w] = carriedAnew(q, w);
            }
        }
        return carriedWays[p][v];
    }

    private Integer carriedAnew(int p, int v) {
        Integer way = apart(now.places.get(p).get(0), v);
        if (way == null || kind(p) == 4 && way > now.places.get(p).get(3)) return null;
        return kind(p) == 1 ? way / 2 + way % 2 : way;
    }

    private long ovenCost(int p) {
        return kind(p) == 2 || kind(p) == 3 ? 0 : now.places.get(p).get(2);
    }

    private Integer server(int choice, int v) {
        Integer best = null;
        for (int p = now.places.size() - 1; p >= 0; p--) {
            if (in(choice, p) && carried(p, v) != null && (best == null || carried(p, v) <= carried(best, v))) best = p;
        }
        return best;
    }

    private int hungry(int choice) {
        int sum = 0;
        for (int v = 0; v < now.loaves.size(); v++) {
            if (now.loaves.get(v) > 0 && server(choice, v) == null) sum++;
        }
        return sum;
    }

    private long servedCost(int choice) {
        long sum = 0;
        for (int p = 0; p < now.places.size(); p++) {
            if (in(choice, p)) sum += ovenCost(p);
        }
        for (int v = 0; v < now.loaves.size(); v++) {
            Integer p = server(choice, v);
            if (p != null) sum += now.loaves.get(v) * carried(p, v);
        }
        return sum;
    }

    private int share(int choice, int p, int what) {
        if (noChoice(choice) || noPlace(p) || out(what, 0, 2)) return BAD;
        if (!in(choice, p)) return STATE;
        int villages = 0;
        int loaves = 0;
        int far = 0;
        for (int v = 0; v < now.loaves.size(); v++) {
            Integer by = server(choice, v);
            if (now.loaves.get(v) > 0 && by != null && by == p) {
                villages++;
                loaves += now.loaves.get(v);
                far = Math.max(far, carried(p, v));
            }
        }
        return what == 0 ? villages : what == 1 ? loaves : far;
    }

    /** The costs of all allowed choices with none of these places, but for a told choice. */
    private TreeMap<Integer, Long> costs(int without, int but) {
        TreeMap<Integer, Long> costs = new TreeMap<>();
        for (int choice = 0; !noChoice(choice); choice++) {
            if (choice != but && (choice & without) == 0 && allowed(choice) && hungry(choice) == 0) {
                costs.put(choice, servedCost(choice));
            }
        }
        return costs;
    }

    private static long least(TreeMap<Integer, Long> costs) {
        return Collections.min(costs.values());
    }

    private static long leastOrNone(TreeMap<Integer, Long> costs) {
        return costs.isEmpty() ? NONE : least(costs);
    }

    private static List<Integer> bests(TreeMap<Integer, Long> costs) {
        List<Integer> bests = new ArrayList<>();
        long least = costs.isEmpty() ? 0 : least(costs);
        for (int choice : costs.keySet()) {
            if (costs.get(choice) == least) bests.add(choice);
        }
        return bests;
    }

    private static long first(TreeMap<Integer, Long> costs) {
        return costs.isEmpty() ? NONE : bests(costs).get(0);
    }

    private int every(int p) {
        if (noPlace(p)) return BAD;
        List<Integer> bests = bests(costs(0, -1));
        if (bests.isEmpty()) return NONE;
        long with = bests.stream().filter(choice -> in(choice, p)).count();
        return with == bests.size() ? 1 : with > 0 ? 0 : -5;
    }

    private long lose(int p) {
        if (noPlace(p)) return BAD;
        if (kind(p) == 3) return STATE;
        return leastOrNone(costs(1 << p, -1));
    }

    private int worst() {
        if (costs(0, -1).isEmpty()) return NONE;
        int worst = NONE;
        double most = -1;
        for (int p = 0; p < now.places.size(); p++) {
            double cost = lose(p);
            double loss = kind(p) == 3 ? -1 : cost == NONE ? Double.POSITIVE_INFINITY : cost;
            if (loss > most) {
                worst = p;
                most = loss;
            }
        }
        return worst;
    }

    private TreeMap<Integer, Integer> fars() {
        TreeMap<Integer, Integer> fars = new TreeMap<>();
        for (int choice : costs(0, -1).keySet()) {
            int far = 0;
            for (int p = 0; p < now.places.size(); p++) {
                if (in(choice, p)) far = Math.max(far, share(choice, p, 2));
            }
            fars.put(choice, far);
        }
        return fars;
    }

    private int nearest() {
        TreeMap<Integer, Integer> fars = fars();
        int least = fars.isEmpty() ? 0 : Collections.min(fars.values());
        for (int choice : fars.keySet()) {
            if (fars.get(choice) == least) return choice;
        }
        return NONE;
    }

    private boolean less(int one, int other) {
        if (hungry(one) != hungry(other)) return hungry(one) < hungry(other);
        return servedCost(one) < servedCost(other);
    }

    private int added() {
        int choice = 0;
        for (int p = 0; p < now.places.size(); p++) {
            if (kind(p) == 3) choice += 1 << p;
        }
        if (!allowed(choice)) return STATE;
        for (moves = 0; ; moves++) {
            int best = choice;
            for (int p = 0; p < now.places.size(); p++) {
                int next = choice + (1 << p);
                if (!in(choice, p) && allowed(next) && less(next, best)) best = next;
            }
            if (best == choice) return choice;
            choice = best;
        }
    }

    private int changed(int choice) {
        if (noChoice(choice)) return BAD;
        if (!allowed(choice)) return STATE;
        for (moves = 0; ; moves++) {
            int best = choice;
            for (int out = 0; out < now.places.size(); out++) {
                for (int in = 0; in < now.places.size(); in++) {
                    int next = choice - (1 << out) + (1 << in);
                    if (in(choice, out) && !in(choice, in) && allowed(next) && less(next, best)) best = next;
                }
            }
            if (best == choice) return choice;
            choice = best;
        }
    }

    private int price(int v, int n) {
        if (noVillage(v) || out(n, 0, 100000000)) return BAD;
        prices.set(v, (long) n);
        return 1;
    }

    private long gives(int p, int v) {
        if (now.loaves.get(v) == 0 || carried(p, v) == null) return 0;
        long gift = prices.get(v) - (long) now.loaves.get(v) * carried(p, v);
        return gift > 0 ? gift : 0;
    }

    private long worth(int p) {
        long sum = 0;
        for (int v = 0; v < now.loaves.size(); v++) sum += gives(p, v);
        sum -= ovenCost(p);
        return sum < 0 && kind(p) != 3 ? 0 : sum;
    }

    private long worths(int choice, long[] worths) {
        long sum = 0;
        for (int p = 0; p < worths.length; p++) sum += in(choice, p) ? worths[p] : 0;
        return sum;
    }

    private long[] allWorths() {
        long[] worths = new long[now.places.size()];
        Arrays.setAll(worths, this::worth);
        return worths;
    }

    private Integer top() {
        Integer top = null;
        long[] worths = allWorths();
        for (int choice = 0; !noChoice(choice); choice++) {
            if (allowed(choice) && (top == null || worths(choice, worths) > worths(top, worths))) top = choice;
        }
        return top;
    }

    private long bound() {
        long sum = 0;
        for (int v = 0; v < now.loaves.size(); v++) {
            if (now.loaves.get(v) > 0) sum += prices.get(v);
        }
        return sum - worths(top(), allWorths());
    }

    private int climb(int n, int s) {
        if (out(n, 0, 100) || out(s, 1, 100000)) return BAD;
        if (top() == null) return STATE;
        int changes = 0;
        List<Long> bounds = new ArrayList<>(List.of(bound()));
        for (int i = 0; i < n; i++) {
            int top = top();
            for (int v = 0; v < now.loaves.size(); v++) changes += step(v, top, s);
            bounds.add(bound());
        }
        highest = Collections.max(bounds);
        return changes;
    }

    private int step(int v, int top, int s) {
        if (now.loaves.get(v) == 0) return 0;
        int givers = 0;
        for (int p = 0; p < now.places.size(); p++) {
            if (in(top, p) && gives(p, v) > 0) givers++;
        }
        long was = prices.get(v);
        if (givers == 0) prices.set(v, Math.min(100000000, was + s));
        if (givers >= 2) prices.set(v, Math.max(0, was - s));
        return prices.get(v) == was ? 0 : 1;
    }

    private int undo() {
        if (past.isEmpty()) return NONE;
        now = past.removeLast();
        while (prices.size() > now.loaves.size()) prices.remove(prices.size() - 1);
        return past.size();
    }

    private int count(int what) {
        return switch (what) {
            case 0 -> now.loaves.size();
            case 1 -> now.places.size();
            case 2 -> now.roads.size();
            case 3 -> now.number;
            case 4 -> now.loaves.stream().mapToInt(n -> n).sum();
            case 5 -> (int) now.places.stream().filter(p -> p.get(1) == 3).count();
            default -> BAD;
        };
    }
}
