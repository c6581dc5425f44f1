import java.util.ArrayDeque;
import java.util.ArrayList;
import java.util.Arrays;
import java.util.HashMap;
import java.util.HashSet;
import java.util.List;
import java.util.Map;
import java.util.Set;
import java.util.TreeSet;

/**
 * The document told once more, in its slowest and plainest form (all drives gone through, all
 * ways of giving marks tried), so that the program's short cuts are held against it.
 */
final class Model {
    private static final int BAD = -1, FULL = -2, FINDING = -3, STATE = -4, NONE = -9;
    private static final String LETTERS = "rpsftv";

    private record Road(int kind, int a, int b, int jolt) { }

    private record Step(int road, int feel) { }

    private record Trip(int start, List<Step> steps) { }

    private final int[][] rows = new int[6][];
    private final byte[][] texts = new byte[4][];
    private int places;
    private List<Road> roads = new ArrayList<>();
    private int wheels = 1;
    private Trip trip = new Trip(0, List.of());
    private final Trip[] kept = new Trip[3];
    private int asked;
    private long upper;
    private int finding;
    private final int[] findings = new int[6];

    long call(String name, int... a) {
        switch (name) {
            case "row": return row(a[0], a[1]);
            case "lay": return lay(a[0], a[1], a[2]);
            case "at": return at(a[0], a[1]);
            case "tear": return tear(a[0]);
            case "copy": return copy(a[0], a[1], a[2], a[3], a[4]);
            case "mean": return mean(a[0]);
            case "text": return text(a[0], a[1]);
            case "put": return put(a[0], a[1], a[2]);
            case "fault": return fault(a[0]);
            case "land": return land(a[0]);
            case "road": return road(a[0], a[1]);
            case "mark": return mark(a[0], a[1]);
            case "wheels": return wheels(a[0]);
            case "from": return from(a[0]);
            case "begin": return begin(a[0]);
            case "go": return go(a[0]);
            case "here": return here();
            case "felt": return felt(a[0]);
            case "undo": return undo(a[0]);
            case "tell": return tell(a[0]);
            case "keep": return keep(a[0]);
            case "on": return on(a[0]);
            case "feels": return feels(a[0], a[1], a[2]);
            case "drives": return drives(a[0], a[1]);
            case "ends": return ends(a[0], a[1]);
            case "first": return first(a[0], a[1], a[2]);
            case "where": return where(a[0]);
            case "slips": return slips(a[0], a[1]);
            case "next": return next(a[0]);
            case "apart": return apart(a[0], a[1]);
            case "unlike": return unlike();
            case "look": return look(a[0]);
            case "marks": return marks(a[0]);
            case "way": return way(a[0], a[1]);
            case "rounds": return rounds(a[0], a[1]);
            case "tour": return tour(a[0]);
            case "pave": return pave(a[0]);
            case "loss": return loss(a[0]);
            case "best": return best();
            case "lots": return lots(a[0], a[1]);
            case "asked": return asked;
            case "upper": return upper;
            case "lower": return 1;
            case "count": return count(a[0]);
            case "finding": return finding;
            case "findings": return a[0] < 1 || a[0] > 5 ? BAD : findings[a[0]];
            case "digest": return digest();
            default: throw new IllegalArgumentException(name);
        }
    }

    int placesThere() {
        return places;
    }

    int roadsThere() {
        return roads.size();
    }

    private int find(int f) {
        finding = f;
        findings[f]++;
        return FINDING;
    }

    private boolean noRow(int r) {
        return r < 0 || r > 5;
    }

    private boolean noText(int t) {
        return t < 0 || t > 3;
    }

    private boolean noPlace(int p) {
        return p < 0 || p >= places;
    }

    private boolean noRoad(int i) {
        return i < 0 || i >= roads.size();
    }

    private int row(int r, int n) {
        if (noRow(r) || n > 40) return BAD;
        if (n < 0) return find(5);
        rows[r] = new int[n];
        return n;
    }

    private int lay(int r, int i, int v) {
        if (noRow(r)) return BAD;
        if (rows[r] == null) return find(1);
        if (i < 0 || i >= rows[r].length) return find(2);
        asked = rows[r][i];
        rows[r][i] = v;
        return 1;
    }

    private int at(int r, int i) {
        if (noRow(r)) return BAD;
        if (rows[r] == null) return find(1);
        if (i < 0 || i >= rows[r].length) return find(2);
        asked = rows[r][i];
        return 1;
    }

    private int tear(int r) {
        if (noRow(r)) return BAD;
        if (rows[r] == null) return find(1);
        rows[r] = null;
        return 1;
    }

    private int copy(int r, int i, int to, int j, int n) {
        if (noRow(r) || noRow(to)) return BAD;
        if (n < 0) return find(5);
        if (rows[r] == null || rows[to] == null) return find(1);
        if (i < 0 || j < 0 || (long) i + n > rows[r].length || (long) j + n > rows[to].length) return find(2);
        int[] taken = rows[r].clone();
        for (int k = 0; k < n; k++) rows[to][j + k] = taken[i + k];
        return 1;
    }

    private int mean(int r) {
        if (noRow(r)) return BAD;
        if (rows[r] == null) return find(1);
        if (rows[r].length == 0) return find(4);
        asked = (int) (Arrays.stream(rows[r]).asLongStream().sum() / rows[r].length);
        return 1;
    }

    private int text(int t, int n) {
        if (noText(t) || n > 80) return BAD;
        if (n < 0) return find(5);
        texts[t] = new byte[n];
        Arrays.fill(texts[t], (byte) 32);
        return n;
    }

    private int put(int t, int i, int v) {
        if (noText(t)) return BAD;
        if (texts[t] == null) return find(1);
        if (i < 0 || i >= texts[t].length) return find(2);
        int old = texts[t][i];
        texts[t][i] = (byte) v;
        return old + 1000;
    }

    /** What each place of an item may hold, as a text of its signs. */
    private static int faultOf(byte[] text, List<Road> into, int[] size) {
        int i = 0;
        while (i < text.length && text[i] == 32) i++;
        String[] head = {"n", "1234567"};
        for (String signs : head) {
            if (i == text.length || signs.indexOf((char) text[i]) < 0) return i;
            i++;
        }
        int n = text[i - 1] - '0';
        size[0] = n;
        String ends = "0123456".substring(0, n);
        String[] item = {LETTERS, ends, ends, "0123456789"};
        while (true) {
            while (i < text.length && text[i] == 32) i++;
            if (i == text.length) return NONE;
            if (into.size() == 10) return i;
            int begin = i;
            for (String signs : item) {
                if (i == text.length || signs.indexOf((char) text[i]) < 0) return i;
                i++;
            }
            into.add(new Road(LETTERS.indexOf(text[begin]), text[begin + 1] - '0',
                text[begin + 2] - '0', text[begin + 3] - '0'));
        }
    }

    private int fault(int t) {
        if (noText(t)) return BAD;
        if (texts[t] == null) return find(1);
        return faultOf(texts[t], new ArrayList<>(), new int[1]);
    }

    private int land(int t) {
        if (noText(t)) return BAD;
        if (texts[t] == null) return find(1);
        List<Road> read = new ArrayList<>();
        int[] size = new int[1];
        if (faultOf(texts[t], read, size) != NONE) return STATE;
        roads = read;
        places = size[0];
        trip = new Trip(0, List.of());
        Arrays.fill(kept, null);
        return roads.size();
    }

    private int feel(Road road) {
        switch (road.kind) {
            case 1: return 0;
            case 2: case 4: return Math.min(9, 2 * road.jolt) / wheels;
            case 3: return 9;
            case 5: return 1;
            default: return road.jolt / wheels;
        }
    }

    private int feel(int i) {
        return feel(roads.get(i));
    }

    private int fact(int i, int what) {
        Road o = roads.get(i);
        return new int[] {o.kind, o.a, o.b, o.jolt, feel(o)}[what];
    }

    private int road(int i, int what) {
        if (noRoad(i) || what < 0 || what > 4) return BAD;
        asked = fact(i, what);
        return 1;
    }

    private static boolean is(Road road, int kind) {
        int[] above = {-1, 0, 0, 0, 2, 1};
        for (int k = road.kind; k >= 0; k = above[k]) {
            if (k == kind) return true;
        }
        return false;
    }

    private int mark(int i, int kind) {
        if (noRoad(i) || kind < 1 || kind > 5) return BAD;
        Road o = roads.get(i);
        if (!is(o, kind)) return find(3);
        int n = 0;
        switch (kind) {
            case 1: return o.jolt / wheels;
            case 2:
                for (int j = 0; j < roads.size(); j++) if (j != i && feel(j) == feel(i)) n++;
                return n;
            case 3:
                for (Road q : roads) if (q.a == o.a || q.b == o.a || q.a == o.b || q.b == o.b) n++;
                return n;
            case 4: return o.b;
            default:
                for (Road q : roads) if (q.kind == 5) n++;
                return n;
        }
    }

    private int wheels(int w) {
        if (w < 1 || w > 3) return BAD;
        int old = wheels;
        wheels = w;
        return old;
    }

    /** Where a road leads from a place, or -1. */
    private int lead(int i, int p) {
        Road o = roads.get(i);
        if (o.a == p) return o.b;
        if (o.b == p && o.kind != 4) return o.a;
        return -1;
    }

    private List<Integer> open(int p) {
        List<Integer> list = new ArrayList<>();
        for (int i = 0; i < roads.size(); i++) if (lead(i, p) >= 0) list.add(i);
        return list;
    }

    private int from(int p) {
        if (noPlace(p)) return BAD;
        int set = 0;
        asked = 0;
        for (int i : open(p)) {
            set |= 1 << i;
            asked |= 1 << lead(i, p);
        }
        return set;
    }

    private int begin(int p) {
        if (noPlace(p)) return BAD;
        trip = new Trip(p, List.of());
        return open(p).size();
    }

    private int cart() {
        int p = trip.start;
        for (Step s : trip.steps) p = lead(s.road, p);
        return p;
    }

    private void drive(int i) {
        List<Step> longer = new ArrayList<>(trip.steps);
        longer.add(new Step(i, feel(i)));
        trip = new Trip(trip.start, longer);
    }

    private int go(int i) {
        if (noRoad(i)) return BAD;
        if (lead(i, cart()) < 0) return STATE;
        if (trip.steps.size() == 40) return FULL;
        drive(i);
        asked = cart();
        return feel(i);
    }

    private int here() {
        if (places == 0) return STATE;
        asked = trip.steps.size();
        return cart();
    }

    private int felt(int k) {
        if (k < 0) return BAD;
        if (k >= trip.steps.size()) return find(2);
        asked = trip.steps.get(k).road;
        return trip.steps.get(k).feel;
    }

    private int undo(int k) {
        int n = trip.steps.size();
        if (k < 0 || k > n) return BAD;
        trip = new Trip(trip.start, List.copyOf(trip.steps.subList(0, k)));
        return n - k;
    }

    private int tell(int r) {
        if (noRow(r)) return BAD;
        rows[r] = trip.steps.stream().mapToInt(Step::feel).toArray();
        return rows[r].length;
    }

    private int keep(int k) {
        if (k < 0 || k > 2) return BAD;
        if (places == 0) return STATE;
        kept[k] = trip;
        return trip.steps.size();
    }

    private int on(int k) {
        if (k < 0 || k > 2) return BAD;
        if (kept[k] == null) return find(1);
        trip = kept[k];
        return trip.steps.size();
    }

    private int feels(int r, int p, int to) {
        if (noRow(r) || noPlace(p) || noRow(to)) return BAD;
        if (rows[r] == null) return find(1);
        for (int v : rows[r]) if (noRoad(v)) return find(3);
        List<Integer> list = new ArrayList<>();
        int q = p;
        for (int v : rows[r]) {
            if (lead(v, q) < 0) break;
            q = lead(v, q);
            list.add(feel(v));
        }
        asked = q;
        rows[to] = list.stream().mapToInt(v -> v).toArray();
        return list.size();
    }

    private int feltRefused(int r, int most) {
        if (rows[r] == null) return find(1);
        if (rows[r].length > most) return find(5);
        for (int v : rows[r]) if (v < 0 || v > 9) return find(3);
        return 0;
    }

    /** How many drives a row has from its number k on, counted drive by drive but remembered. */
    private long drivesOf(int[] row, int k, int p, Map<Integer, Long> known) {
        if (k == row.length) return 1;
        Long before = known.get(k * 8 + p);
        if (before != null) return before;
        long n = 0;
        for (int i : open(p)) if (feel(i) == row[k]) n += drivesOf(row, k + 1, lead(i, p), known);
        known.put(k * 8 + p, n);
        return n;
    }

    private long drivesOf(int[] row, int p) {
        return drivesOf(row, 0, p, new HashMap<>());
    }

    private int drives(int r, int p) {
        if (noRow(r) || noPlace(p)) return BAD;
        int refused = feltRefused(r, 16);
        if (refused != 0) return refused;
        upper = drivesOf(rows[r], p);
        return 1;
    }

    private Set<Integer> after(Set<Integer> set, int v) {
        Set<Integer> then = new TreeSet<>();
        for (int p : set) for (int i : open(p)) if (feel(i) == v) then.add(lead(i, p));
        return then;
    }

    private Set<Integer> after(Set<Integer> set, int[] row) {
        Set<Integer> now = set;
        for (int v : row) now = after(now, v);
        return now;
    }

    private static int bits(Set<Integer> set) {
        int b = 0;
        for (int v : set) b |= 1 << v;
        return b;
    }

    private Set<Integer> all() {
        Set<Integer> set = new TreeSet<>();
        for (int p = 0; p < places; p++) set.add(p);
        return set;
    }

    private int ends(int r, int p) {
        if (noRow(r) || noPlace(p)) return BAD;
        int refused = feltRefused(r, 16);
        return refused != 0 ? refused : bits(after(Set.of(p), rows[r]));
    }

    private boolean firstOf(int[] row, int k, int p, List<Integer> into) {
        if (k == row.length) return true;
        for (int i : open(p)) {
            if (feel(i) != row[k]) continue;
            int[] rest = Arrays.copyOfRange(row, k + 1, row.length);
            if (drivesOf(rest, lead(i, p)) == 0) continue;
            into.add(i);
            return firstOf(row, k + 1, lead(i, p), into);
        }
        return false;
    }

    private int first(int r, int p, int to) {
        if (noRow(r) || noPlace(p) || noRow(to)) return BAD;
        int refused = feltRefused(r, 16);
        if (refused != 0) return refused;
        List<Integer> list = new ArrayList<>();
        if (!firstOf(rows[r], 0, p, list)) return NONE;
        int q = p;
        for (int i : list) q = lead(i, q);
        rows[to] = list.stream().mapToInt(v -> v).toArray();
        return q;
    }

    private int where(int r) {
        if (noRow(r)) return BAD;
        int refused = feltRefused(r, 16);
        if (refused != 0) return refused;
        asked = 0;
        int end = 0;
        for (int p = 0; p < places; p++) {
            int b = bits(after(Set.of(p), rows[r]));
            end |= b;
            if (b != 0) asked |= 1 << p;
        }
        return end;
    }

    /** The fewest slips from number k on by which a drive from p ends at a place, 99: none does. */
    private int slipsTo(int[] row, int k, int p, int end, Map<Integer, Integer> known) {
        if (k == row.length) return p == end ? 0 : 99;
        Integer before = known.get(k * 8 + p);
        if (before != null) return before;
        int least = 99;
        for (int i : open(p)) {
            int rest = slipsTo(row, k + 1, lead(i, p), end, known);
            if (rest < 99) least = Math.min(least, rest + (feel(i) == row[k] ? 0 : 1));
        }
        known.put(k * 8 + p, least);
        return least;
    }

    private int slips(int r, int p) {
        if (noRow(r) || noPlace(p)) return BAD;
        int refused = feltRefused(r, 16);
        if (refused != 0) return refused;
        int least = 99;
        int place = -1;
        for (int q = 0; q < places; q++) {
            int n = slipsTo(rows[r], 0, p, q, new HashMap<>());
            if (n < least) {
                least = n;
                place = q;
            }
        }
        if (place < 0) return NONE;
        asked = place;
        return least;
    }

    private int next(int r) {
        if (noRow(r)) return BAD;
        int refused = feltRefused(r, 15);
        if (refused != 0) return refused;
        Set<Integer> set = after(all(), rows[r]);
        int best = NONE;
        for (int v = 9; v >= 0; v--) {
            int n = after(set, v).size();
            if (n > 0 && (best == NONE || n <= after(set, best).size())) best = v;
        }
        if (best != NONE) asked = after(set, best).size();
        return best;
    }

    /** All pairs of sets, without a short cut: the first shortest row, or null. */
    private String tellingApart(int p, int q) {
        record Pair(Set<Integer> a, Set<Integer> b, String row) { }
        Set<String> seen = new HashSet<>();
        ArrayDeque<Pair> queue = new ArrayDeque<>();
        queue.add(new Pair(Set.of(p), Set.of(q), ""));
        String best = null;
        while (!queue.isEmpty()) {
            Pair now = queue.remove();
            if (best != null && now.row.length() + 1 > best.length()) break;
            for (int v = 0; v < 10; v++) {
                Set<Integer> a = after(now.a, v);
                Set<Integer> b = after(now.b, v);
                String longer = now.row + v;
                if (a.isEmpty() && b.isEmpty()) continue;
                if (a.isEmpty() || b.isEmpty()) {
                    if (best == null || longer.compareTo(best) < 0) best = longer;
                } else if (seen.add(a + "/" + b)) {
                    queue.add(new Pair(a, b, longer));
                }
            }
        }
        return best;
    }

    private int apart(int p, int q) {
        if (noPlace(p) || noPlace(q)) return BAD;
        String row = tellingApart(p, q);
        if (row == null) return NONE;
        asked = after(Set.of(p), row.chars().map(c -> c - '0').toArray()).isEmpty() ? q : p;
        return row.length();
    }

    private int unlike() {
        if (places == 0) return STATE;
        int groups = 0;
        asked = 0;
        for (int p = 0; p < places; p++) {
            boolean isNew = true;
            for (int q = 0; q < p; q++) if (tellingApart(p, q) == null) isNew = false;
            if (isNew) groups++;
            if (tellingApart(0, p) == null) asked |= 1 << p;
        }
        return groups;
    }

    private int look(int set) {
        if (set < 0 || set >= 1 << places) return BAD;
        Map<String, Integer> groups = new java.util.LinkedHashMap<>();
        for (int p = 0; p < places; p++) {
            if ((set >> p & 1) == 0) continue;
            Set<Integer> numbers = new TreeSet<>();
            for (int i : open(p)) numbers.add(feel(i));
            groups.merge(numbers.toString(), 1 << p, (x, y) -> x | y);
        }
        asked = 0;
        for (int g : groups.values()) if (Integer.bitCount(g) > Integer.bitCount(asked)) asked = g;
        return groups.size();
    }

    private void markWays(int[] row, int k, int used, int[] result) {
        if (k == row.length) {
            result[0]++;
            result[1] &= used;
            return;
        }
        for (int i = 0; i < roads.size(); i++) {
            if ((used >> i & 1) == 0 && feel(i) == row[k]) markWays(row, k + 1, used | 1 << i, result);
        }
    }

    private int marks(int r) {
        if (noRow(r)) return BAD;
        int refused = feltRefused(r, 6);
        if (refused != 0) return refused;
        int[] result = {0, -1};
        markWays(rows[r], 0, 0, result);
        asked = result[0] == 0 ? 0 : result[1];
        return result[0];
    }

    /** All drives without a place twice, gone through. */
    private void ways(int p, int q, int sum, int n, int seen, int[] best) {
        if (p == q && (sum < best[0] || sum == best[0] && n < best[1])) {
            best[0] = sum;
            best[1] = n;
        }
        for (int i : open(p)) {
            int to = lead(i, p);
            if ((seen >> to & 1) == 0) ways(to, q, sum + feel(i), n + 1, seen | 1 << to, best);
        }
    }

    private int way(int p, int q) {
        if (noPlace(p) || noPlace(q)) return BAD;
        int[] best = {999, 999};
        ways(p, q, 0, 0, 1 << p, best);
        if (best[0] == 999) return NONE;
        asked = best[1];
        return best[0];
    }

    private long roundsOf(int p, int k, int end, Map<Integer, Long> known) {
        if (k == 0) return p == end ? 1 : 0;
        Long before = known.get(k * 8 + p);
        if (before != null) return before;
        long n = 0;
        for (int i : open(p)) n += roundsOf(lead(i, p), k - 1, end, known);
        known.put(k * 8 + p, n);
        return n;
    }

    private int rounds(int p, int k) {
        if (noPlace(p) || k < 0 || k > 14) return BAD;
        upper = roundsOf(p, k, p, new HashMap<>());
        return 1;
    }

    private int tour(int p) {
        if (noPlace(p)) return BAD;
        int full = (1 << roads.size()) - 1;
        Set<Integer> seen = new HashSet<>(List.of(p));
        Set<Integer> level = Set.of(p);
        for (int n = 0; !level.isEmpty(); n++) {
            int least = 99;
            Set<Integer> then = new HashSet<>();
            for (int state : level) {
                if (state >> 3 == full) least = Math.min(least, state & 7);
                for (int i : open(state & 7)) {
                    int to = (state >> 3 | 1 << i) << 3 | lead(i, state & 7);
                    if (seen.add(to)) then.add(to);
                }
            }
            if (least < 99) {
                asked = least;
                return n;
            }
            level = then;
        }
        return NONE;
    }

    private boolean canPave(int i) {
        return roads.get(i).kind == 0 || roads.get(i).kind == 2;
    }

    private void setPaved(int i) {
        Road o = roads.get(i);
        roads.set(i, new Road(1, o.a, o.b, o.jolt));
    }

    private int pave(int i) {
        if (noRoad(i)) return BAD;
        if (!canPave(i)) return STATE;
        int old = feel(i);
        setPaved(i);
        return old;
    }

    private Set<Integer> alikePairs() {
        Set<Integer> set = new HashSet<>();
        for (int p = 0; p < places; p++) {
            for (int q = 0; q < p; q++) if (tellingApart(p, q) == null) set.add(p * 8 + q);
        }
        return set;
    }

    private int loss(int i) {
        if (noRoad(i)) return BAD;
        if (!canPave(i)) return STATE;
        Set<Integer> before = alikePairs();
        Road old = roads.get(i);
        setPaved(i);
        Set<Integer> then = alikePairs();
        roads.set(i, old);
        then.removeAll(before);
        return then.size();
    }

    private int best() {
        int best = NONE;
        int least = 0;
        for (int i = 0; i < roads.size(); i++) {
            if (!canPave(i)) continue;
            int n = loss(i);
            if (best == NONE || n < least) {
                best = i;
                least = n;
            }
        }
        if (best != NONE) asked = least;
        return best;
    }

    private int lots(int n, int seed) {
        if (n < 1 || n > 40 || seed < 1 || seed > 2147483646) return BAD;
        if (places == 0) return STATE;
        long number = seed;
        int went = 0;
        while (went < n && trip.steps.size() < 40 && !open(cart()).isEmpty()) {
            number = number * 48271 % 2147483647;
            List<Integer> list = open(cart());
            drive(list.get((int) (number % list.size())));
            went++;
        }
        return went;
    }

    private int count(int what) {
        switch (what) {
            case 0: return places;
            case 1: return roads.size();
            case 2: return trip.steps.size();
            case 3: return (int) roads.stream().filter(o -> is(o, 1)).count();
            case 4: return (int) roads.stream().filter(o -> is(o, 2)).count();
            case 5: return (int) Arrays.stream(kept).filter(k -> k != null).count();
            case 6: return (int) Arrays.stream(rows).filter(k -> k != null).count();
            case 7: return (int) Arrays.stream(texts).filter(k -> k != null).count();
            default: return BAD;
        }
    }

    private long digest() {
        List<Long> v = new ArrayList<>();
        for (int i = 0; i < 8; i++) v.add((long) count(i));
        v.add((long) wheels);
        for (int i = 0; i < roads.size(); i++) for (int k = 0; k < 5; k++) v.add((long) fact(i, k));
        v.add((long) cart());
        for (Step s : trip.steps) {
            v.add((long) s.road);
            v.add((long) s.feel);
        }
        for (Trip t : kept) v.add(t == null ? -1L : t.steps.size());
        for (int[] r : rows) {
            v.add(r == null ? -1L : r.length);
            if (r != null) for (int c : r) v.add((long) c);
        }
        for (byte[] t : texts) {
            v.add(t == null ? -1L : t.length);
            if (t != null) for (byte c : t) v.add((long) c);
        }
        long h = 17;
        for (long x : v) h = 31 * h + x;
        return h;
    }
}
