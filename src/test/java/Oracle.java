import java.math.BigInteger;
import java.util.ArrayList;
import java.util.HashMap;
import java.util.List;
import java.util.Map;

/** The document once more, as plainly as can be and without a thought of speed: by trying all there is. */
final class Oracle {
    private static final int UNKNOWN = -1, BAD = -2, LATE = -3, FULL = -4, NONE = -9;
    private static final int FAR_OFF = 1 << 24;

    /** What the slots keep; never changed once made. */
    private record Now(List<Integer> at, int left, Map<Integer, Integer> did, List<Integer> loans) {
        Now moved(int walker, int place, int cost) {
            List<Integer> then = new ArrayList<>(at);
            then.set(walker, place);
            return new Now(then, left - cost, did, loans);
        }
    }

    private record Errand(int place, int worth, int who) { }

    private record Road(int a, int b, int length) { }

    private String text = "";
    private int places = 2;
    private int steps = 0;
    private List<Road> roads = List.of();
    private List<Errand> errands = List.of();
    private Now now = start(0);
    private final List<Now> acts = new ArrayList<>();
    private final Map<Integer, Now> slots = new HashMap<>();

    private static Now start(int steps) {
        return new Now(List.of(0, 0), steps, Map.of(), List.of());
    }

    // ---- the day

    int write(int n, long v) {
        if (n < 1 || n > 8) return BAD;
        if (text.length() + n > 80) return FULL;
        StringBuilder more = new StringBuilder();
        BigInteger whole = BigInteger.valueOf(v);
        for (int i = 0; i < n; i++) more.insert(0, (char) whole.shiftRight(8 * i).and(BigInteger.valueOf(255)).intValue());
        text += more;
        return text.length();
    }

    int wipe() {
        int was = text.length();
        text = "";
        return was;
    }

    /** By the words themselves: a DAY, or what becomes one by what comes behind it. */
    int fault() {
        if (isDay(text)) return NONE;
        for (int i = 1; i <= text.length(); i++) {
            if (!canBecomeDay(text.substring(0, i), 4)) return i - 1;
        }
        return text.length();
    }

    private static boolean canBecomeDay(String begun, int more) {
        if (isDay(begun)) return true;
        if (more == 0) return false;
        for (char c = '0'; c <= '9'; c++) {
            if (canBecomeDay(begun + c, more - 1)) return true;
        }
        return false;
    }

    private static boolean isDay(String text) {
        if (!text.matches("V[0-9]{3}[2-6](R[0-9]{4}|E[0-9]{2}[012])*")) return false;
        List<Road> roads = roadsOf(text);
        int places = text.charAt(4) - '0';
        for (int i = 0; i < roads.size(); i++) {
            Road r = roads.get(i);
            if (r.a >= places || r.b >= places || r.a == r.b || r.length == 0) return false;
            for (Road s : roads.subList(0, i)) {
                if (s.a == r.a && s.b == r.b || s.a == r.b && s.b == r.a) return false;
            }
        }
        for (Errand e : errandsOf(text)) {
            if (e.place >= places) return false;
        }
        return roads.size() <= 10 && errandsOf(text).size() <= 6;
    }

    private static List<Road> roadsOf(String text) {
        List<Road> all = new ArrayList<>();
        for (int i = text.indexOf('R'); i >= 0; i = text.indexOf('R', i + 1)) {
            all.add(new Road(text.charAt(i + 1) - '0', text.charAt(i + 2) - '0',
                Integer.parseInt(text.substring(i + 3, i + 5))));
        }
        return all;
    }

    private static List<Errand> errandsOf(String text) {
        List<Errand> all = new ArrayList<>();
        for (int i = text.indexOf('E'); i >= 0; i = text.indexOf('E', i + 1)) {
            all.add(new Errand(text.charAt(i + 1) - '0', text.charAt(i + 2) - '0', text.charAt(i + 3) - '0'));
        }
        return all;
    }

    int day() {
        if (!isDay(text)) return LATE;
        places = text.charAt(4) - '0';
        steps = Integer.parseInt(text.substring(1, 4));
        roads = roadsOf(text);
        errands = errandsOf(text);
        now = start(steps);
        acts.clear();
        slots.clear();
        return places;
    }

    int about(int what) {
        int done = 0;
        int worth = 0;
        for (int e : now.did.keySet()) {
            done += 1 << e;
            worth += errands.get(e).worth;
        }
        int owed = 10000;
        for (int loan : now.loans) owed += backOf(loan);
        int[] all = {places, errands.size(), roads.size(), now.left, done, worth, acts.size(), now.loans.size(),
            owed, text.length()};
        return what < 0 || what >= all.length ? BAD : all[what];
    }

    /** LOANS are told as what went (LENT) or, less than 0, what came. */
    private static int backOf(int loan) {
        int n = Math.abs(loan);
        int owed = n;
        for (int tenth = 0; tenth < n; tenth += 10) owed++;
        return loan > 0 ? owed : -owed;
    }

    int at(int walker) {
        return walker == 0 || walker == 1 ? now.at.get(walker) : UNKNOWN;
    }

    private int way(int from, int to, List<Integer> been) {
        if (from == to) return 0;
        int best = FAR_OFF;
        List<Integer> more = new ArrayList<>(been);
        more.add(from);
        for (Road r : roads) {
            if (r.a == from && !been.contains(r.b)) best = Math.min(best, r.length + way(r.b, to, more));
            if (r.b == from && !been.contains(r.a)) best = Math.min(best, r.length + way(r.a, to, more));
        }
        return Math.min(best, FAR_OFF);
    }

    private final Map<String, Integer> ways = new HashMap<>();

    private int way(int from, int to) {
        String key = from + " " + to + " " + roads;
        Integer known = ways.get(key);
        if (known != null) return known;
        int found = way(from, to, List.of());
        ways.put(key, found);
        return found;
    }

    private boolean isPlace(int place) {
        return place >= 0 && place < places;
    }

    private boolean isErrand(int errand) {
        return errand >= 0 && errand < errands.size();
    }

    int far(int from, int to) {
        if (!isPlace(from) || !isPlace(to)) return UNKNOWN;
        return way(from, to) == FAR_OFF ? NONE : way(from, to);
    }

    int errand(int errand, int what) {
        if (!isErrand(errand)) return UNKNOWN;
        Errand e = errands.get(errand);
        int[] all = {e.place, e.worth, e.who, now.did.containsKey(errand) ? 1 : 0, now.did.getOrDefault(errand, NONE)};
        return what < 0 || what >= all.length ? BAD : all[what];
    }

    // ---- acts

    private int act(Now then) {
        acts.add(now);
        if (acts.size() > 16) acts.remove(0);
        now = then;
        return now.left;
    }

    int walk(int walker, int place) {
        if (at(walker) == UNKNOWN || !isPlace(place)) return UNKNOWN;
        int cost = way(at(walker), place);
        return cost == 0 || cost > now.left ? LATE : act(now.moved(walker, place, cost));
    }

    int carry(int walker, int place) {
        if (at(walker) == UNKNOWN || !isPlace(place)) return UNKNOWN;
        int cost = way(at(walker), place);
        if (cost == 0 || cost + cost > now.left || at(0) != at(1)) return LATE;
        return act(now.moved(0, place, cost).moved(1, place, cost));
    }

    private boolean can(int walker, int errand) {
        int who = errands.get(errand).who;
        return who == 2 || who == walker;
    }

    int done(int walker, int errand) {
        if (at(walker) == UNKNOWN || !isErrand(errand)) return UNKNOWN;
        if (now.did.containsKey(errand) || !can(walker, errand)) return LATE;
        if (at(walker) != errands.get(errand).place) return LATE;
        Map<Integer, Integer> did = new HashMap<>(now.did);
        did.put(errand, walker);
        act(new Now(now.at, now.left, did, now.loans));
        return errands.get(errand).worth;
    }

    int loan(int n, boolean borrowed) {
        if (n < 1 || n > 99) return BAD;
        if (!borrowed && n > now.left) return LATE;
        if (now.loans.size() == 8) return FULL;
        List<Integer> loans = new ArrayList<>(now.loans);
        loans.add(borrowed ? -n : n);
        return act(new Now(now.at, borrowed ? now.left + n : now.left - n, now.did, loans));
    }

    int back() {
        if (now.loans.isEmpty()) return LATE;
        int left = now.left + backOf(now.loans.get(0));
        if (left < 0) return LATE;
        return act(new Now(now.at, left, now.did, now.loans.subList(1, now.loans.size())));
    }

    int undo() {
        if (acts.isEmpty()) return LATE;
        now = acts.remove(acts.size() - 1);
        return acts.size();
    }

    int judge(int walker, int n, int row) {
        if (at(walker) == UNKNOWN) return UNKNOWN;
        if (n < 1 || n > 8 || row < 0 || Integer.toString(row).length() > n) return BAD;
        String figures = String.format("%0" + n + "d", row);
        Now then = now;
        for (int i = 0; i < n; i++) {
            int place = figures.charAt(i) - '0';
            if (!isPlace(place)) return i;
            int cost = way(then.at.get(walker), place);
            if (cost == 0 || cost > then.left) return i;
            then = then.moved(walker, place, cost);
        }
        return NONE;
    }

    // ---- plans

    /** By each order of a set of ERRANDS. */
    private int tourFrom(int start, int set, int home) {
        if (set == 0) return way(start, home);
        int best = FAR_OFF;
        for (int e = 0; e < errands.size(); e++) {
            if ((set & 1 << e) == 0) continue;
            int place = errands.get(e).place;
            best = Math.min(best, way(start, place) + tourFrom(place, set - (1 << e), home));
        }
        return best;
    }

    int tour(int walker, int set) {
        if (at(walker) == UNKNOWN) return UNKNOWN;
        if (set < 0 || set >= 1 << errands.size()) return BAD;
        for (int e = 0; e < errands.size(); e++) {
            if ((set & 1 << e) != 0 && (now.did.containsKey(e) || !can(walker, e))) return LATE;
        }
        int steps = tourFrom(at(walker), set, 0);
        return steps >= FAR_OFF ? NONE : steps;
    }

    /** WORTH, STEPS, her set, his; null: NONE. Each ERRAND is hers, his or nobody's. */
    private int[] best(int her, int him, int home, int left, Map<Integer, Integer> did) {
        int[] best = null;
        int all = (int) Math.pow(3, errands.size());
        for (int told = 0; told < all; told++) {
            int[] sets = {0, 0};
            int worth = 0;
            boolean may = true;
            for (int e = 0, rest = told; e < errands.size(); e++, rest /= 3) {
                if (rest % 3 == 2) continue;
                may &= !did.containsKey(e) && can(rest % 3, e);
                sets[rest % 3] += 1 << e;
                worth += errands.get(e).worth;
            }
            if (!may) continue;
            int steps = tourFrom(her, sets[0], home) + tourFrom(him, sets[1], home);
            int[] found = {worth, steps, sets[0], sets[1]};
            if (steps <= left && (best == null || before(found, best))) best = found;
        }
        return best;
    }

    private static boolean before(int[] a, int[] b) {
        if (a[0] != b[0]) return a[0] > b[0];
        for (int i = 1; i < 4; i++) {
            if (a[i] != b[i]) return a[i] < b[i];
        }
        return false;
    }

    private final Map<String, int[]> plans = new HashMap<>();

    private int[] bestKept(int her, int him, int home, int left, Map<Integer, Integer> did) {
        String key = her + " " + him + " " + home + " " + left + " " + did.keySet() + roads + errands;
        if (!plans.containsKey(key)) plans.put(key, best(her, him, home, left, did));
        return plans.get(key);
    }

    int plan(int what) {
        if (what < 0 || what > 3) return BAD;
        int[] best = bestKept(at(0), at(1), 0, now.left, now.did);
        return best == null ? NONE : best[what];
    }

    int live() {
        int where = 0;
        for (int p = 1; p < places; p++) {
            if (bestKept(p, p, p, steps, Map.of())[0] > bestKept(where, where, where, steps, Map.of())[0]) where = p;
        }
        return where;
    }

    int byTurns(int walker) {
        if (at(walker) == UNKNOWN) return UNKNOWN;
        if (errands.size() - now.did.size() > 5) return LATE;
        if (way(at(0), 0) + way(at(1), 0) > now.left) return NONE;
        return turn(0, now, new boolean[2])[walker];
    }

    private int[] turn(int on, Now then, boolean[] gone) {
        if (gone[0] && gone[1]) return new int[] {0, 0};
        if (gone[on]) return turn(1 - on, then, gone);
        boolean[] gone2 = gone.clone();
        gone2[on] = true;
        int[] best = turn(1 - on, then.moved(on, 0, way(then.at.get(on), 0)), gone2);
        for (int e = 0; e < errands.size(); e++) {
            if (then.did.containsKey(e) || !can(on, e)) continue;
            int place = errands.get(e).place;
            Now next = then.moved(on, place, way(then.at.get(on), place));
            if (way(next.at.get(0), 0) + way(next.at.get(1), 0) > next.left) continue;
            Map<Integer, Integer> did = new HashMap<>(next.did);
            did.put(e, on);
            int[] worths = turn(1 - on, new Now(next.at, next.left, did, next.loans), gone).clone();
            worths[on] += errands.get(e).worth;
            if (worths[on] > best[on]) best = worths;
        }
        return best;
    }

    // ---- guessed

    private long[] rowsFrom(int place, int n, int t) {
        long[] byEnd = new long[places];
        if (n == 0) {
            if (t == 0) byEnd[place]++;
            return byEnd;
        }
        for (int to = 0; to < places; to++) {
            if (to == place || way(place, to) > t) continue;
            long[] more = rowsFrom(to, n - 1, t - way(place, to));
            for (int p = 0; p < places; p++) byEnd[p] += more[p];
        }
        return byEnd;
    }

    private static boolean isLedger(int n, int t) {
        return n >= 0 && n <= 8 && t >= 0 && t <= 999;
    }

    long ledger(int place, int n, int t) {
        if (!isPlace(place)) return UNKNOWN;
        if (!isLedger(n, t)) return BAD;
        long sum = 0;
        for (long some : rowsFrom(place, n, t)) sum += some;
        return sum;
    }

    int ends(int place, int n, int t) {
        if (!isPlace(place)) return UNKNOWN;
        if (!isLedger(n, t)) return BAD;
        int bits = 0;
        long[] byEnd = rowsFrom(place, n, t);
        for (int p = 0; p < places; p++) bits += byEnd[p] > 0 ? 1 << p : 0;
        return bits;
    }

    private BigInteger[] fraction(int x, int t) {
        BigInteger above = BigInteger.ZERO;
        BigInteger below = BigInteger.TEN.pow(errands.size());
        for (int set = 0; set < 1 << errands.size(); set++) {
            int came = Integer.bitCount(set);
            BigInteger cases = BigInteger.valueOf(x).pow(came).multiply(BigInteger.valueOf(10 - x).pow(errands.size() - came));
            if (tourFrom(0, set, 0) <= t) above = above.add(cases);
        }
        BigInteger common = above.gcd(below);
        return new BigInteger[] {above.divide(common), below.divide(common)};
    }

    long chance(int x, int t, boolean upper) {
        if (x < 0 || x > 10 || t < 0 || t > 999) return BAD;
        return fraction(x, t)[upper ? 0 : 1].longValueExact();
    }

    int spare(int x, int y) {
        if (x < 0 || x > 10 || y < 0 || y > 100) return BAD;
        int[] costs = new int[1 << errands.size()];
        for (int set = 0; set < costs.length; set++) costs[set] = tourFrom(0, set, 0);
        for (int t = 0; t <= 999; t++) {
            boolean known = false;
            for (int cost : costs) known |= cost == t;
            if (t > 0 && !known) continue;
            BigInteger[] f = fraction(x, t);
            if (f[0].multiply(BigInteger.valueOf(100)).compareTo(f[1].multiply(BigInteger.valueOf(y))) >= 0) return t;
        }
        return NONE;
    }

    // ---- slots

    int keep(int slot) {
        if (slot != 0 && slot != 1) return UNKNOWN;
        slots.put(slot, now);
        return now.left;
    }

    int again(int slot) {
        if (slot != 0 && slot != 1) return UNKNOWN;
        if (!slots.containsKey(slot)) return LATE;
        now = slots.get(slot);
        acts.clear();
        return now.left;
    }
}
