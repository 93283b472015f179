import java.util.ArrayList;
import java.util.HashMap;
import java.util.HashSet;
import java.util.List;
import java.util.Map;
import java.util.NoSuchElementException;
import java.util.Set;

/**
 * The document once more, written as plainly as can be and by other ways than LentMinds goes
 * (whole sets of states, minutes one by one), so that both can be compared on drawn calls.
 */
final class Naive {
    static final class Body {
        int x, y, h, n, m, w, g, joint = -1, from = 0, to = -1, a, b;
    }

    static final class State implements Cloneable {
        int[] without = new int[9];
        int[] did = new int[9];
        boolean[] done = new boolean[9];
        boolean[] bed = new boolean[9];
        int now, mind, way, harm, worth, passes;
        List<int[]> passings = new ArrayList<>();
        List<int[]> spots = new ArrayList<>();

        State copy() {
            State s = new State();
            s.without = without.clone();
            s.did = did.clone();
            s.done = done.clone();
            s.bed = bed.clone();
            s.now = now;
            s.mind = mind;
            s.way = way;
            s.harm = harm;
            s.worth = worth;
            s.passes = passes;
            s.passings.addAll(passings);
            s.spots.addAll(spots);
            return s;
        }
    }

    private List<Body> bodies = new ArrayList<>();
    private int breath, stride, day, joints;
    private final StringBuilder tape = new StringBuilder();
    private int fault = -1;
    private State s = new State();
    private final List<State> images = new ArrayList<>();

    int feed(int a, int b, int c, int d, int e) {
        if (tape.length() + 20 > 500) return -1;
        for (int n : new int[] {a, b, c, d, e}) {
            tape.append((char) (n >>> 24)).append((char) (n >> 16 & 255)).append((char) (n >> 8 & 255)).append((char) (n & 255));
        }
        return tape.length();
    }

    // ---- the text: all tokens first, then the clauses ----

    private record Token(String text, int at) { }

    private static final class Fault extends Exception {
        private static final long serialVersionUID = 1L;
        final int number, at;
        Fault(int number, int at) {
            this.number = number;
            this.at = at;
        }
    }

    private static List<Token> tokens(String text) {
        List<Token> all = new ArrayList<>();
        java.util.regex.Matcher m = java.util.regex.Pattern.compile("[a-z]+|[0-9]+|[^ ]", java.util.regex.Pattern.DOTALL).matcher(text);
        while (m.find()) all.add(new Token(m.group(), m.start()));
        all.add(new Token("", text.length()));
        return all;
    }

    int house(int n) {
        if (n < 0 || n > tape.length()) throw new IllegalArgumentException();
        String text = tape.substring(0, n);
        tape.setLength(0);
        Naive read = new Naive();
        try {
            read.parse(tokens(text));
        } catch (Fault f) {
            fault = f.at;
            return f.number - 10;
        }
        fault = -1;
        bodies = read.bodies;
        breath = read.breath;
        stride = read.stride;
        day = read.day;
        joints = read.joints;
        s = new State();
        images.clear();
        return bodies.size();
    }

    private void parse(List<Token> all) throws Fault {
        breath = 1;
        stride = 10;
        day = 480;
        int at = 0;
        int clauses = 0;
        while (!all.get(at).text.isEmpty()) {
            Token word = all.get(at++);
            clauses++;
            int numbers = switch (word.text) {
                case "body" -> 6;
                case "sleep", "cries" -> 3;
                case "joint", "habit" -> 2;
                case "breath", "stride", "day" -> 1;
                default -> throw new Fault(1, word.at);
            };
            if (clauses > 40 || word.text.equals("body") && bodies.size() == 9) throw new Fault(3, word.at);
            int[] v = new int[numbers];
            for (int i = 0; i < numbers; i++) {
                Token t = all.get(at++);
                if (!t.text.matches("[0-9]+")) throw new Fault(1, t.at);
                java.math.BigInteger big = new java.math.BigInteger(t.text);
                v[i] = big.bitLength() > 20 ? 1 << 20 : big.intValue();
                if (!allowed(word.text, i, v)) throw new Fault(2, t.at);
            }
            if (!all.get(at).text.equals(";")) throw new Fault(1, all.get(at).at);
            at++;
            apply(word.text, v);
        }
        if (bodies.isEmpty()) throw new Fault(4, all.get(at).at);
    }

    private boolean in(int v, int low, int high) {
        return low <= v && v <= high;
    }

    private boolean allowed(String word, int i, int[] v) {
        switch (word) {
            case "body":
                return i == 0 || i == 1 ? in(v[i], 0, 15) : i == 2 ? in(v[i], 1, 60) : i == 3 ? in(v[i], 1, 240) : in(v[i], 0, 99);
            case "joint":
                return v[i] < bodies.size() && bodies.get(v[i]).joint < 0 && (i == 0 || v[1] != v[0]);
            case "sleep":
                return i == 0 ? v[0] < bodies.size() : i == 1 ? v[1] < 480 : v[2] < 480 && v[1] <= v[2];
            case "habit":
                return i == 0 ? v[0] < bodies.size() : in(v[1], 1, 60);
            case "cries":
                return i == 0 ? v[0] < bodies.size() : i == 1 ? in(v[1], 1, 20) : in(v[2], 0, 20);
            case "breath":
                return in(v[0], 0, 9);
            case "stride":
                return in(v[0], 1, 30);
            default:
                return in(v[0], 30, 480);
        }
    }

    private void apply(String word, int[] v) {
        switch (word) {
            case "body" -> {
                Body b = new Body();
                b.x = v[0];
                b.y = v[1];
                b.h = v[2];
                b.n = v[3];
                b.m = v[4];
                b.w = v[5];
                bodies.add(b);
            }
            case "joint" -> {
                bodies.get(v[0]).joint = v[1];
                bodies.get(v[1]).joint = v[0];
                joints++;
            }
            case "sleep" -> {
                bodies.get(v[0]).from = v[1];
                bodies.get(v[0]).to = v[2];
            }
            case "habit" -> bodies.get(v[0]).g = v[1];
            case "cries" -> {
                bodies.get(v[0]).a = v[1];
                bodies.get(v[0]).b = v[2];
            }
            case "breath" -> breath = v[0];
            case "stride" -> stride = v[0];
            default -> day = v[0];
        }
    }

    int fault() {
        return fault;
    }

    private void arg(boolean ok) {
        if (!ok) throw new IllegalArgumentException();
    }

    private Body get(int body) {
        if (body < 0 || body >= bodies.size()) throw new NoSuchElementException();
        return bodies.get(body);
    }

    int told(int what) {
        arg(in(what, 0, 4));
        return new int[] {bodies.size(), breath, stride, day, joints}[what];
    }

    int body(int body, int what) {
        Body b = get(body);
        arg(in(what, 0, 7));
        return new int[] {b.x, b.y, b.h, b.n, b.m, b.w, b.g, b.joint}[what];
    }

    // ---- minutes ----

    private int hold(State st, int k) {
        Body b = bodies.get(k);
        int h = b.h;
        for (int i = 1; b.g > 0 && i * b.g <= st.did[k]; i++) h++;
        return h > 60 ? 60 : h;
    }

    private boolean asleep(State st, int k) {
        for (int m = bodies.get(k).from; m <= bodies.get(k).to; m++) if (m == st.now) return true;
        return false;
    }

    private boolean drifted(State st, int k) {
        return !st.done[k] && !st.bed[k] && st.without[k] > hold(st, k);
    }

    private boolean free(State st, int k) {
        return !st.done[k] && !st.bed[k] && !asleep(st, k);
    }

    private Set<Integer> minute(State st) {
        Set<Integer> drift = new java.util.TreeSet<>();
        Set<Integer> with = new HashSet<>();
        if (st.way == 0 && st.mind >= 0) {
            with.add(st.mind);
            with.add(bodies.get(st.mind).joint);
        }
        for (int k = 0; k < bodies.size(); k++) {
            if (!free(st, k)) continue;
            if (with.contains(k)) {
                st.without[k] = 0;
                st.did[k]++;
                if (st.did[k] == bodies.get(k).n) {
                    st.done[k] = true;
                    st.worth += bodies.get(k).w;
                }
            } else {
                st.without[k]++;
                if (st.without[k] > hold(st, k)) {
                    drift.add(k);
                    st.harm += bodies.get(k).m;
                }
            }
        }
        if (st.way > 0) st.way--;
        st.now++;
        return drift;
    }

    int now(int body, int what) {
        get(body);
        arg(in(what, 0, 7));
        return switch (what) {
            case 0 -> s.without[body];
            case 1 -> s.did[body];
            case 2 -> hold(s, body);
            case 3 -> hold(s, body) - s.without[body];
            case 4 -> s.done[body] ? 1 : 0;
            case 5 -> s.bed[body] ? 1 : 0;
            case 6 -> asleep(s, body) ? 1 : 0;
            default -> drifted(s, body) ? 1 : 0;
        };
    }

    private int far(int x, int y, int u, int v) {
        return breath + (Math.abs(x - u) + Math.abs(y - v)) / stride;
    }

    int costs(int body, int other) {
        Body a = get(body);
        Body b = get(other);
        return body == other ? 0 : far(a.x, a.y, b.x, b.y);
    }

    int pass(int body) {
        get(body);
        if (s.way > 0) return -1;
        if (s.mind == body) return -2;
        go(s, body);
        return s.way;
    }

    private void go(State st, int body) {
        st.way = costs(st.mind, body);
        st.mind = body;
        st.passes++;
    }

    int mind() {
        return bodies.isEmpty() ? -1 : s.way * 100 + s.mind;
    }

    boolean bed(int body, boolean is) {
        get(body);
        boolean was = s.bed[body];
        s.bed[body] = is;
        s.without[body] = 0;
        return was;
    }

    int minutes(int n) {
        arg(in(n, 1, 480));
        if (bodies.isEmpty() || s.now == day) throw new IllegalStateException();
        int before = s.harm;
        while (n-- > 0 && s.now < day) minute(s);
        return s.harm - before;
    }

    private int doneIn(State st) {
        int n = 0;
        for (boolean d : st.done) if (d) n++;
        return n;
    }

    int day(int what) {
        arg(in(what, 0, 3));
        return new int[] {s.harm, s.worth, doneIn(s), s.passes}[what];
    }

    int passing(int minute, int body) {
        get(body);
        arg(in(minute, 0, 479));
        if (s.passings.size() == 30) return -1;
        s.passings.add(new int[] {minute, body});
        return s.passings.size();
    }

    int clear() {
        int n = s.passings.size();
        s.passings.clear();
        return n;
    }

    int judge(int what) {
        arg(in(what, 0, 3));
        State t = s.copy();
        int late = -1;
        int lost = 0;
        for (int[] p : s.passings) if (p[0] < s.now) lost++;
        while (t.now < day) {
            for (int i = 0; i < s.passings.size(); i++) {
                int[] p = s.passings.get(i);
                if (p[0] != t.now) continue;
                if (t.way > 0) {
                    lost++;
                    continue;
                }
                if (p[1] == t.mind) continue;
                if (drifted(t, p[1]) && late < 0) late = i;
                go(t, p[1]);
            }
            minute(t);
        }
        return new int[] {t.harm - s.harm, t.worth - s.worth, late, lost}[what];
    }

    // ---- rules ----

    private double weight(State t, int rule, int k) {
        int slack = hold(t, k) - t.without[k];
        return switch (rule) {
            case 0 -> (k - t.mind + bodies.size()) % bodies.size();
            case 1 -> slack;
            case 2 -> -(double) bodies.get(k).m / Math.max(1, slack + 1);
            case 3 -> costs(t.mind, k);
            case 4 -> bodies.get(k).n - t.did[k];
            default -> k;
        };
    }

    private State runFrom(State from, int rule, int q, int seed) {
        State t = from.copy();
        int there = 0;
        int random = seed;
        while (t.now < day) {
            boolean[] cries = new boolean[9];
            for (int k = 0; k < bodies.size() && rule == 5; k++) {
                if (!free(t, k)) continue;
                random = (int) ((random & 0xffffffffL) * 1103515245L + 12345L);
                int draw = (int) ((random & 0xffffffffL) / 65536 % 32768 % 20);
                cries[k] = draw < (drifted(t, k) ? bodies.get(k).a : bodies.get(k).b);
            }
            if (t.way == 0 && (there >= q || !free(t, t.mind))) {
                int best = -1;
                for (int k = 0; k < bodies.size(); k++) {
                    if (k == t.mind || !free(t, k) || rule == 5 && !cries[k]) continue;
                    if (best < 0 || weight(t, rule, k) < weight(t, rule, best)) best = k;
                }
                if (best >= 0) {
                    go(t, best);
                    there = 0;
                }
            }
            there = t.way == 0 ? there + 1 : 0;
            minute(t);
        }
        return t;
    }

    int run(int rule, int q, int what, int seed) {
        arg(in(rule, 0, 5) && in(q, 1, 60) && in(what, 0, 3));
        State t = runFrom(s, rule, q, seed);
        return new int[] {t.harm - s.harm, t.worth - s.worth, doneIn(t), t.passes - s.passes}[what];
    }

    int best(int q) {
        arg(in(q, 1, 60));
        if (bodies.isEmpty()) return -1;
        int best = 0;
        for (int r = 1; r < 5; r++) {
            int h = run(r, q, 0, 0) - run(best, q, 0, 0);
            if (h < 0 || h == 0 && run(r, q, 1, 0) > run(best, q, 1, 0)) best = r;
        }
        return best;
    }

    int often(int rule) {
        arg(in(rule, 0, 4));
        int best = 1;
        int least = Integer.MAX_VALUE;
        for (int q = 1; q <= 60; q++) {
            int h = run(rule, q, 0, 0);
            if (h < least) {
                least = h;
                best = q;
            }
        }
        return best;
    }

    private boolean teachable(int k, int many) {
        return !s.done[k] && s.did[k] + many < bodies.get(k).n;
    }

    int taught(int body, int many, int rule, int q) {
        get(body);
        arg(in(many, 1, 239) && teachable(body, many) && in(rule, 0, 4) && in(q, 1, 60));
        State t = s.copy();
        t.did[body] += many;
        return runFrom(s, rule, q, 0).harm - runFrom(t, rule, q, 0).harm;
    }

    int pays(int many, int rule, int q) {
        arg(in(many, 1, 239) && in(rule, 0, 4) && in(q, 1, 60));
        int best = -1;
        for (int k = 0; k < bodies.size(); k++) {
            if (teachable(k, many) && (best < 0 || taught(k, many, rule, q) > taught(best, many, rule, q))) best = k;
        }
        return best;
    }

    int trust(int body, int d) {
        Body b = get(body);
        arg(in(d, 1, 20));
        int all = d * b.a + (20 - d) * b.b;
        return all == 0 ? -1 : d * b.a * 1000 / all;
    }

    boolean answer(int body, int d, int t, int cost) {
        get(body);
        arg(in(d, 1, 20) && in(t, 1, 60) && in(cost, 0, 9999));
        return trust(body, d) >= 0 && (long) trust(body, d) * bodies.get(body).m * t > 1000L * cost;
    }

    // ---- few: the set of all states that are reached, less those that can't go on ----

    private List<Integer> members(int bits, int least, int most) {
        List<Integer> m = new ArrayList<>();
        for (int k = 0; k < 32; k++) if ((bits >>> k & 1) != 0) m.add(k);
        arg(in(m.size(), least, most));
        for (int k : m) arg(k < bodies.size());
        return m;
    }

    private int fewHold(int k) {
        return Math.min(8, hold(s, k));
    }

    /** State: the body the mind is with, then WITHOUT of all; null: one would have too much. */
    private List<Integer> after(List<Integer> m, List<Integer> st, int to) {
        int[] w = new int[m.size()];
        for (int i = 0; i < w.length; i++) w[i] = st.get(i + 1);
        int way = costs(st.get(0), to);
        for (int t = 0; t <= way; t++) {
            for (int i = 0; i < w.length; i++) {
                w[i] = t == way && m.get(i) == to ? 0 : w[i] + 1;
                if (w[i] > fewHold(m.get(i))) return null;
            }
        }
        List<Integer> next = new ArrayList<>();
        next.add(to);
        for (int v : w) next.add(v);
        return next;
    }

    private List<Integer> start(List<Integer> m) {
        List<Integer> st = new ArrayList<>();
        st.add(m.get(0));
        for (int i = 0; i < m.size(); i++) st.add(0);
        return st;
    }

    private Set<List<Integer>> living(List<Integer> m) {
        Map<List<Integer>, List<List<Integer>>> next = new HashMap<>();
        List<List<Integer>> todo = new ArrayList<>();
        todo.add(start(m));
        while (!todo.isEmpty()) {
            List<Integer> st = todo.remove(todo.size() - 1);
            if (next.containsKey(st)) continue;
            List<List<Integer>> all = new ArrayList<>();
            for (int to : m) {
                List<Integer> n = after(m, st, to);
                if (n != null) all.add(n);
            }
            next.put(st, all);
            todo.addAll(all);
        }
        Set<List<Integer>> alive = new HashSet<>(next.keySet());
        boolean changed = true;
        while (changed) {
            changed = alive.removeIf(st -> next.get(st).stream().noneMatch(alive::contains));
        }
        return alive;
    }

    boolean can(int bits) {
        List<Integer> m = members(bits, 1, 4);
        return living(m).contains(start(m));
    }

    private List<Integer> walk(List<Integer> m, Set<List<Integer>> alive, List<Integer> st) {
        for (int to : m) {
            List<Integer> n = after(m, st, to);
            if (n != null && alive.contains(n)) return n;
        }
        return null;
    }

    int step(int bits, int k) {
        List<Integer> m = members(bits, 1, 4);
        arg(in(k, 0, 999));
        Set<List<Integer>> alive = living(m);
        List<Integer> st = start(m);
        if (!alive.contains(st)) return -1;
        for (int i = 0; i <= k; i++) st = walk(m, alive, st);
        return st.get(0);
    }

    int round(int bits, int what) {
        List<Integer> m = members(bits, 1, 4);
        arg(in(what, 0, 2));
        Set<List<Integer>> alive = living(m);
        List<List<Integer>> seen = new ArrayList<>();
        List<Integer> st = start(m);
        if (!alive.contains(st)) return -1;
        while (!seen.contains(st)) {
            seen.add(st);
            st = walk(m, alive, st);
        }
        int first = seen.indexOf(st);
        int minutes = 0;
        for (int i = first; i < seen.size(); i++) {
            List<Integer> n = i + 1 < seen.size() ? seen.get(i + 1) : st;
            minutes += 1 + costs(seen.get(i).get(0), n.get(0));
        }
        return new int[] {first, seen.size() - first, minutes}[what];
    }

    int density(int bits) {
        int sum = 0;
        for (int k : members(bits, 1, 4)) sum += 1000 / (fewHold(k) + 1);
        return sum;
    }

    // ---- how long ----

    private int stayIn(State from, int body) {
        State t = from.copy();
        while (t.way > 0 && t.now < day) {
            if (others(minute(t), body)) return 0;
        }
        if (t.way == 0 && t.mind != body) go(t, body);
        int with = 0;
        while (t.now < day) {
            boolean there = t.way == 0;
            if (others(minute(t), body)) return with;
            if (there) with++;
        }
        return 999;
    }

    private boolean others(Set<Integer> drift, int body) {
        drift.remove(body);
        drift.remove(bodies.get(body).joint);
        return !drift.isEmpty();
    }

    int stay(int body) {
        get(body);
        return stayIn(s, body);
    }

    int beds(int body, int many, int what) {
        get(body);
        arg(in(many, 0, 8) && in(what, 0, 1));
        int best = -1;
        int longest = -1;
        for (int set = 0; set < 512; set++) {
            if (Integer.bitCount(set) != many) continue;
            State t = s.copy();
            boolean ok = true;
            for (int k = 0; k < 9; k++) {
                if ((set >> k & 1) == 0) continue;
                ok &= k < bodies.size() && k != body && !s.bed[k];
                t.bed[k] = true;
            }
            if (ok && stayIn(t, body) > longest) {
                best = set;
                longest = stayIn(t, body);
            }
        }
        return what == 0 ? best : longest;
    }

    int two(int bits) {
        List<Integer> m = members(bits, 2, 6);
        for (int part = 1; part < 512; part++) {
            if ((part & bits) != part || (part >> m.get(0) & 1) == 0 || part == bits) continue;
            if (Integer.bitCount(part) > 4 || Integer.bitCount(bits ^ part) > 4) continue;
            if (can(part) && can(bits ^ part)) return part;
        }
        return -1;
    }

    int alike(int h, int c) {
        arg(in(h, 1, 60) && in(c, 0, 30));
        int n = 1;
        while ((n + 1) * (c + 1) <= h + 1) n++;
        return n;
    }

    int spot(int x, int y) {
        arg(in(x, 0, 15) && in(y, 0, 15));
        if (s.spots.size() == 6) return -1;
        s.spots.add(new int[] {x, y});
        return s.spots.size();
    }

    int placed(int what) {
        arg(in(what, 0, 1));
        int n = s.spots.size();
        if (n == 0 || n > bodies.size()) return -1;
        int bestCost = Integer.MAX_VALUE;
        int bestDigits = -1;
        int all = 1;
        for (int i = 0; i < n; i++) all *= 6;
        for (int digits = 0; digits < all; digits++) {
            int[] at = new int[n];
            Set<Integer> used = new HashSet<>();
            int rest = digits;
            for (int i = n - 1; i >= 0; i--) {
                at[i] = rest % 6;
                rest /= 6;
                if (at[i] < n) used.add(at[i]);
            }
            if (used.size() < n) continue;
            int cost = 0;
            for (int i = 0; i < n && n > 1; i++) {
                int[] p = s.spots.get(at[i]);
                int[] q = s.spots.get(at[(i + 1) % n]);
                cost += far(p[0], p[1], q[0], q[1]);
            }
            if (cost < bestCost) {
                bestCost = cost;
                bestDigits = digits;
            }
        }
        return what == 0 ? bestCost : bestDigits;
    }

    // ---- back: all rows of steps, each minute told ----

    private final Map<List<Integer>, Integer> least = new HashMap<>();

    private int leastHarm(List<Integer> m, List<Integer> st, int left) {
        if (left <= 0) return 0;
        List<Integer> key = new ArrayList<>(st);
        key.add(left);
        Integer known = least.get(key);
        if (known != null) return known;
        int best = Integer.MAX_VALUE;
        for (int to : m) best = Math.min(best, harmBy(m, st, to, left));
        least.put(key, best);
        return best;
    }

    private int harmBy(List<Integer> m, List<Integer> st, int to, int left) {
        int way = costs(st.get(0), to);
        List<Integer> next = new ArrayList<>(st);
        next.set(0, to);
        int harm = 0;
        for (int t = 0; t <= way && t < left; t++) {
            for (int i = 0; i < m.size(); i++) {
                int w = t == way && m.get(i) == to ? 0 : next.get(i + 1) + 1;
                next.set(i + 1, w);
                if (w > fewHold(m.get(i))) harm += bodies.get(m.get(i)).m;
            }
        }
        return harm + leastHarm(m, next, left - way - 1);
    }

    int back(int bits, int t, int what) {
        List<Integer> m = members(bits, 1, 3);
        arg(in(t, 1, 40) && in(what, 0, 1));
        least.clear();
        int best = leastHarm(m, start(m), t);
        if (what == 0) return best;
        for (int to : m) if (harmBy(m, start(m), to, t) == best) return to;
        return -1;
    }

    int safe() {
        int best = 0;
        for (int bits = 1; bits < 1 << bodies.size(); bits++) {
            boolean ok = Integer.bitCount(bits) <= 4 && Integer.bitCount(bits) > Integer.bitCount(best);
            for (int k = 0; k < bodies.size(); k++) ok &= (bits >> k & 1) == 0 || !s.done[k] && !s.bed[k];
            if (ok && can(bits)) best = bits;
        }
        return best;
    }

    int gone(int what) {
        arg(in(what, 0, 1));
        State t = s.copy();
        t.mind = -1;
        t.way = 0;
        while (t.now < day) {
            Set<Integer> drift = minute(t);
            if (!drift.isEmpty()) return what == 0 ? t.now - 1 - s.now : drift.iterator().next();
        }
        return what == 0 ? 999 : -1;
    }

    int over() {
        int sum = 0;
        Set<Integer> counted = new HashSet<>();
        for (int k = 0; k < bodies.size(); k++) {
            if (!counted.add(k)) continue;
            int need = s.done[k] || s.bed[k] ? 0 : bodies.get(k).n - s.did[k];
            int j = bodies.get(k).joint;
            if (j >= 0) {
                counted.add(j);
                need = Math.max(need, s.done[j] || s.bed[j] ? 0 : bodies.get(j).n - s.did[j]);
            }
            sum += need;
        }
        return Math.max(0, sum - (day - s.now));
    }

    int image() {
        if (images.size() == 3) return -1;
        images.add(s.copy());
        return images.size();
    }

    int restore() {
        if (images.isEmpty()) return -1;
        s = images.remove(images.size() - 1);
        return images.size();
    }

    int count(int what) {
        int beds = 0;
        for (boolean b : s.bed) if (b) beds++;
        return what < 0 || what > 5 ? -1
            : new int[] {s.now, s.passings.size(), s.spots.size(), beds, images.size(), tape.length()}[what];
    }
}
