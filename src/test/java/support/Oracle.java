import java.util.ArrayDeque;
import java.util.ArrayList;
import java.util.Arrays;
import java.util.Deque;
import java.util.HashMap;
import java.util.HashSet;
import java.util.List;
import java.util.Map;
import java.util.Set;
import java.util.TreeMap;

/**
 * The document once more, written the slow way: texts are trees that throw, what is on paper is done on
 * whole copies, what can be undone is kept as copies, searches go through all rows.
 */
final class Oracle {
    static final class Gate {
        int from, to, kind, arm;
        boolean open = true;
    }

    static final class Goer {
        int park, many, hurry, paid;
    }

    /** All that an image keeps. */
    static final class World {
        List<Gate> gates = new ArrayList<>();
        List<Goer> goers = new ArrayList<>();
        List<int[]> seen = new ArrayList<>();
        int[] terms = {0, 1, 0};
        List<OracleText> laws = new ArrayList<>();
        int force = -1;

        World copy() {
            World w = new World();
            for (Gate g : gates) {
                Gate h = new Gate();
                h.from = g.from; h.to = g.to; h.kind = g.kind; h.arm = g.arm; h.open = g.open;
                w.gates.add(h);
            }
            for (Goer g : goers) {
                Goer h = new Goer();
                h.park = g.park; h.many = g.many; h.hurry = g.hurry; h.paid = g.paid;
                w.goers.add(h);
            }
            w.seen.addAll(seen);
            w.terms = terms.clone();
            w.laws.addAll(laws);
            w.force = force;
            return w;
        }

        OracleText law() {
            return force < 0 ? null : laws.get(force);
        }

        Map<String, Integer> words(int kind, int arm, int many, int hurry, int gate, int goer) {
            Map<String, Integer> m = new HashMap<>();
            m.put("kind", kind);
            m.put("arm", arm);
            m.put("many", many);
            m.put("hurry", hurry);
            m.put("gate", gate);
            m.put("goer", goer);
            m.put("day", terms[0]);
            m.put("mood", terms[2]);
            return m;
        }

        Map<String, Integer> words(int goer, int gate, int many) {
            Gate g = gates.get(gate);
            return words(g.kind, g.arm, many, goers.get(goer).hurry, gate, goer);
        }

        int turns(Map<String, Integer> words) {
            int out = Math.max(0, words.get("many") - 1);
            if (law() != null) {
                for (OracleText.Clause c : law().clauses) {
                    Long v = c.verb.equals("turns") ? c.told(words) : null;
                    out = v == null ? out : (int) Math.max(0, Math.min(19, v));
                }
            }
            return out;
        }

        int pays(Map<String, Integer> words) {
            int out = 1;
            if (law() != null) {
                for (OracleText.Clause c : law().clauses) {
                    Long v = c.verb.equals("pays") ? c.told(words) : null;
                    out = v == null ? out : (int) Math.max(0, Math.min(9, v));
                }
            }
            return out;
        }

        boolean bars(Map<String, Integer> words) {
            boolean barred = false;
            if (law() != null) {
                for (OracleText.Clause c : law().clauses) {
                    barred |= c.verb.equals("bars") && c.told(words) != null;
                }
            }
            return barred;
        }

        boolean can(int goer, int gate) {
            Goer g = goers.get(goer);
            return gates.get(gate).from == g.park && gates.get(gate).open && !bars(words(goer, gate, g.many));
        }

        int go(int goer, int gate) {
            if (goer < 0 || goer >= goers.size() || gate < 0 || gate >= gates.size()) return -2;
            if (!can(goer, gate)) return -3;
            Goer g = goers.get(goer);
            Map<String, Integer> words = words(goer, gate, g.many);
            g.paid = Math.min(9999, g.paid + pays(words));
            g.many = turns(words);
            g.park = gates.get(gate).to;
            return g.many;
        }

        int latch(int gate) {
            if (gate < 0 || gate >= gates.size()) return -2;
            gates.get(gate).open = !gates.get(gate).open;
            return gates.get(gate).open ? 1 : 0;
        }

        int set(int gate, int arm) {
            if (arm < 0 || arm > 9) return -1;
            if (gate < 0 || gate >= gates.size()) return -2;
            int was = gates.get(gate).arm;
            if (was == arm) return -3;
            gates.get(gate).arm = arm;
            return was;
        }

        int pass() {
            return terms[0] >= 999 ? -3 : ++terms[0];
        }

        /** The place behind a gate for one at a place, -1 if it can't. */
        int behind(int goer, int gate, int place) {
            Gate g = gates.get(gate);
            Map<String, Integer> words = words(goer, gate, place % 20);
            return g.from != place / 20 || !g.open || bars(words) ? -1 : 20 * g.to + turns(words);
        }

        int start(int goer) {
            return 20 * goers.get(goer).park + goers.get(goer).many;
        }

        /** By place its first shortest row. */
        Map<Integer, List<Integer>> rows(int goer) {
            Map<Integer, List<Integer>> all = new HashMap<>();
            Map<Integer, List<Integer>> level = new HashMap<>();
            level.put(start(goer), new ArrayList<>());
            while (!level.isEmpty()) {
                all.putAll(level);
                Map<Integer, List<Integer>> next = new HashMap<>();
                for (Map.Entry<Integer, List<Integer>> e : level.entrySet()) {
                    for (int gate = 0; gate < gates.size(); gate++) {
                        int then = behind(goer, gate, e.getKey());
                        if (then < 0 || all.containsKey(then)) continue;
                        List<Integer> row = new ArrayList<>(e.getValue());
                        row.add(gate);
                        if (!next.containsKey(then) || before(row, next.get(then))) next.put(then, row);
                    }
                }
                level = next;
            }
            return all;
        }

        static boolean before(List<Integer> a, List<Integer> b) {
            if (a.size() != b.size()) return a.size() < b.size();
            for (int i = 0; i < a.size(); i++) {
                if (!a.get(i).equals(b.get(i))) return a.get(i) < b.get(i);
            }
            return false;
        }

        List<Integer> way(int goer, int park, int many) {
            List<Integer> best = null;
            for (Map.Entry<Integer, List<Integer>> e : rows(goer).entrySet()) {
                if (is(e.getKey(), park, many) && (best == null || before(e.getValue(), best))) best = e.getValue();
            }
            return best;
        }
    }

    static boolean is(int place, int park, int many) {
        return place / 20 == park && (many == -1 || place % 20 == many);
    }

    World w = new World();
    World[] images = new World[2];
    World drawn = null;
    byte[] tape = {};
    int fault = -1, stopped = -1, rust = 0, status = 0;
    int[] refused = new int[7];
    /** Copies of the world ahead of steps, and which steps these were. */
    Deque<World> worlds = new ArrayDeque<>();
    Deque<Integer> steps = new ArrayDeque<>();

    int told(int v) {
        status = Math.min(v, 0);
        if (v < 0) refused[-v]++;
        return v;
    }

    int anew(int v) {
        if (v >= 0) {
            worlds.clear();
            steps.clear();
        }
        return told(v);
    }

    static boolean in(int v, int least, int most) {
        return v >= least && v <= most;
    }

    int addGate(int from, int to, int kind, int arm) {
        if (!in(from, 0, 5) || !in(to, 0, 5) || !in(kind, 0, 7) || !in(arm, 0, 9)) return -1;
        if (w.gates.size() == 10) return -5;
        Gate g = new Gate();
        g.from = from; g.to = to; g.kind = kind; g.arm = arm;
        w.gates.add(g);
        return w.gates.size() - 1;
    }

    int gate(int from, int to, int kind, int arm) {
        return anew(addGate(from, to, kind, arm));
    }

    boolean hasGate(int g) {
        return in(g, 0, w.gates.size() - 1);
    }

    boolean hasGoer(int g) {
        return in(g, 0, w.goers.size() - 1);
    }

    int at(int gate, int what) {
        if (!hasGate(gate) || !in(what, 0, 4)) return -1;
        Gate g = w.gates.get(gate);
        return new int[] {g.from, g.to, g.kind, g.arm, g.open ? 1 : 0}[what];
    }

    int goer(int park, int many, int hurry) {
        if (!in(park, 0, 5) || !in(many, 0, 19) || !in(hurry, 0, 3)) return told(-1);
        if (w.goers.size() == 5) return told(-5);
        Goer g = new Goer();
        g.park = park; g.many = many; g.hurry = hurry;
        w.goers.add(g);
        return anew(w.goers.size() - 1);
    }

    int of(int goer, int what) {
        if (!hasGoer(goer) || !in(what, 0, 4)) return -1;
        Goer g = w.goers.get(goer);
        int bits = 0;
        for (int i = 0; i < w.gates.size(); i++) bits |= w.can(goer, i) ? 1 << i : 0;
        return new int[] {g.park, g.many, g.hurry, g.paid, bits}[what];
    }

    int asks(int goer, int gate, int many, int what) {
        if (!hasGoer(goer) || !hasGate(gate) || !in(many, 0, 19) || !in(what, 0, 2)) return -1;
        Map<String, Integer> words = w.words(goer, gate, many);
        return what == 0 ? w.turns(words) : what == 1 ? w.pays(words) : w.bars(words) ? 1 : 0;
    }

    int terms(int what, int value) {
        if (!in(what, 0, 2) || !in(value, 0, new int[] {999, 10, 9}[what])) return told(-1);
        int was = w.terms[what];
        w.terms[what] = value;
        return anew(was);
    }

    int feed(int a, int b, int c, int d, int e) {
        if (tape.length + 20 > 400) return -1;
        int at = tape.length;
        tape = Arrays.copyOf(tape, at + 20);
        for (int v : new int[] {a, b, c, d, e}) {
            for (int k = 0; k < 4; k++) tape[at++] = (byte) (v >> 8 * (3 - k));
        }
        return at;
    }

    int end(int n) {
        if (n < 0 || n > tape.length) return -1;
        tape = Arrays.copyOf(tape, n);
        return n;
    }

    int row() {
        if (tape.length == 0) return told(-6);
        int came = 0;
        rust = 0;
        for (int i = 0; i < tape.length; i += 4) {
            if (i + 4 <= tape.length
                    && addGate(tape[i] & 255, tape[i + 1] & 255, tape[i + 2] & 255, tape[i + 3] & 255) >= 0) came++;
            else rust++;
        }
        tape = new byte[0];
        return anew(came);
    }

    OracleText read(boolean orders) {
        byte[] b = tape;
        tape = new byte[0];
        fault = -1;
        try {
            return new OracleText(b, orders);
        } catch (OracleText.Fault f) {
            fault = f.place;
            return null;
        }
    }

    int law() {
        if (w.laws.size() == 6) {
            tape = new byte[0];
            return told(-5);
        }
        OracleText t = read(false);
        if (t == null) return told(-6);
        w.laws.add(t);
        return told(w.laws.size() - 1);
    }

    /** A step that can be undone. */
    int step(int which, int a, int b) {
        World ahead = w.copy();
        int v = which == 0 ? w.go(a, b) : which == 1 ? w.latch(a) : which == 2 ? w.set(a, b) : w.pass();
        if (v >= 0) {
            worlds.addLast(ahead);
            steps.addLast(which);
            if (steps.size() > 16) {
                worlds.removeFirst();
                steps.removeFirst();
            }
        }
        return v;
    }

    int orders() {
        stopped = -1;
        OracleText t = read(true);
        if (t == null) return told(-6);
        World ahead = w.copy();
        Deque<World> worldsAhead = new ArrayDeque<>(worlds);
        Deque<Integer> stepsAhead = new ArrayDeque<>(steps);
        int done = 0, latest = -1;
        for (int i = 0; i < t.clauses.size(); i++) {
            OracleText.Clause c = t.clauses.get(i);
            for (int n = 0; n < c.times; n++) {
                Map<String, Integer> words = orderWords(done, latest);
                if (!c.so(words)) continue;
                int v = orderStep(c, words);
                if (v < 0) {
                    w = ahead;
                    worlds = worldsAhead;
                    steps = stepsAhead;
                    stopped = i;
                    return told(-3);
                }
                done++;
                if (c.verb.equals("go")) latest = v;
            }
        }
        return told(done);
    }

    int orderStep(OracleText.Clause c, Map<String, Integer> words) {
        try {
            int a = c.first == null ? 0 : (int) c.first.value(words);
            int b = c.second == null ? 0 : (int) c.second.value(words);
            return step(List.of("go", "latch", "set", "pass").indexOf(c.verb), a, b);
        } catch (OracleText.Broken e) {
            return -3;
        }
    }

    Map<String, Integer> orderWords(int done, int latest) {
        Map<String, Integer> m = new HashMap<>();
        m.put("day", w.terms[0]);
        m.put("done", done);
        m.put("latest", latest);
        m.put("whole", (int) w.goers.stream().filter(g -> g.many == 1).count());
        for (int i = 0; i < 5; i++) {
            m.put("many " + i, hasGoer(i) ? w.goers.get(i).many : -1);
            m.put("park " + i, hasGoer(i) ? w.goers.get(i).park : -1);
        }
        for (int i = 0; i < 10; i++) m.put("arm " + i, hasGate(i) ? w.gates.get(i).arm : -1);
        return m;
    }

    int force(int law) {
        if (law < -1 || law >= w.laws.size()) return told(-2);
        int was = w.force;
        w.force = law;
        told(0);
        return was;
    }

    int go(int goer, int gate) {
        return told(step(0, goer, gate));
    }

    int latch(int gate) {
        return told(step(1, gate, 0));
    }

    int set(int gate, int arm) {
        return told(step(2, gate, arm));
    }

    int pass() {
        return told(step(3, 0, 0));
    }

    int undo() {
        if (steps.isEmpty()) return told(-3);
        World then = worlds.removeLast();
        // what was not done by a step stays
        then.seen = w.seen;
        then.laws = w.laws;
        then.force = w.force;
        w = then;
        return told(steps.removeLast());
    }

    boolean seeks(int goer, int park, int many) {
        return hasGoer(goer) && in(park, 0, 5) && in(many, -1, 19);
    }

    int way(int goer, int park, int many, int i) {
        if (!seeks(goer, park, many)) return -1;
        List<Integer> row = w.way(goer, park, many);
        return row == null ? -1 : i == -1 ? row.size() : in(i, 0, row.size() - 1) ? row.get(i) : -1;
    }

    int cheap(int goer, int park, int many) {
        if (!seeks(goer, park, many)) return -1;
        Map<Integer, Integer> price = new TreeMap<>();
        price.put(w.start(goer), 0);
        boolean changed = true;
        while (changed) {
            changed = false;
            for (int place : new ArrayList<>(price.keySet())) {
                for (int gate = 0; gate < w.gates.size(); gate++) {
                    int then = w.behind(goer, gate, place);
                    if (then < 0) continue;
                    int p = price.get(place) + w.pays(w.words(goer, gate, place % 20));
                    if (!price.containsKey(then) || price.get(then) > p) {
                        price.put(then, p);
                        changed = true;
                    }
                }
            }
        }
        int best = -1;
        for (Map.Entry<Integer, Integer> e : price.entrySet()) {
            if (is(e.getKey(), park, many) && (best < 0 || e.getValue() < best)) best = e.getValue();
        }
        return best;
    }

    int manys(int goer, int park) {
        if (!seeks(goer, park, -1)) return -1;
        int bits = 0;
        for (int place : w.rows(goer).keySet()) bits |= place / 20 == park ? 1 << place % 20 : 0;
        return bits;
    }

    int reach(int goer) {
        if (!hasGoer(goer)) return -1;
        int bits = 0;
        for (int place : w.rows(goer).keySet()) bits |= 1 << place / 20;
        return bits;
    }

    long ways(int goer, int park, int many, int n) {
        if (!seeks(goer, park, many) || !in(n, 0, 12)) return -1;
        return ways(goer, park, many, n, w.start(goer), new HashMap<>());
    }

    long ways(int goer, int park, int many, int n, int place, Map<Integer, Long> known) {
        if (n == 0) return is(place, park, many) ? 1 : 0;
        Long k = known.get(n * 1000 + place);
        if (k != null) return k;
        long all = 0;
        for (int gate = 0; gate < w.gates.size(); gate++) {
            int then = w.behind(goer, gate, place);
            if (then >= 0) all += ways(goer, park, many, n - 1, then, known);
        }
        known.put(n * 1000 + place, all);
        return all;
    }

    long likely(int goer, int park, int many, int n) {
        if (!seeks(goer, park, many) || !in(n, 0, 30)) return -1;
        Map<Integer, Long> parts = new HashMap<>();
        parts.put(w.start(goer), 1_000_000_000_000L);
        for (int i = 0; i < n; i++) {
            Map<Integer, Long> next = new HashMap<>();
            for (Map.Entry<Integer, Long> e : parts.entrySet()) {
                List<Integer> exits = new ArrayList<>();
                for (int gate = 0; gate < w.gates.size(); gate++) {
                    int then = w.behind(goer, gate, e.getKey());
                    if (then >= 0) exits.add(then);
                }
                if (exits.isEmpty()) next.merge(e.getKey(), e.getValue(), Long::sum);
                for (int then : exits) next.merge(then, e.getValue() / exits.size(), Long::sum);
            }
            parts = next;
        }
        long all = 0;
        for (Map.Entry<Integer, Long> e : parts.entrySet()) all += is(e.getKey(), park, many) ? e.getValue() : 0;
        return all;
    }

    int again(int goer, int gate, int what) {
        if (!hasGoer(goer) || !hasGate(gate) || !in(what, 0, 1)) return -1;
        List<Integer> were = new ArrayList<>();
        int many = w.goers.get(goer).many;
        while (!were.contains(many)) {
            were.add(many);
            many = w.turns(w.words(goer, gate, many));
        }
        return what == 0 ? were.indexOf(many) : were.size() - were.indexOf(many);
    }

    int fixed(int goer, int park, int many) {
        if (!seeks(goer, park, many)) return -1;
        if (w.way(goer, park, many) != null) return 100;
        for (int v = 0; v < 10 * w.gates.size(); v++) {
            World p = w.copy();
            if (p.set(v / 10, v % 10) >= 0 && p.way(goer, park, many) != null) return v;
        }
        return -1;
    }

    int cut(int goer, int park, int what) {
        if (!seeks(goer, park, -1) || !in(what, 0, 1) || w.goers.get(goer).park == park) return -1;
        int best = -1;
        for (int bits = 0; bits < 1 << w.gates.size(); bits++) {
            if (best >= 0 && Integer.bitCount(bits) >= Integer.bitCount(best)) continue;
            World p = w.copy();
            boolean all = true;
            for (int i = 0; i < w.gates.size(); i++) {
                if ((bits >> i & 1) == 1) {
                    all &= p.gates.get(i).open;
                    p.gates.get(i).open = false;
                }
            }
            if (all && p.way(goer, park, -1) == null) best = bits;
        }
        return what == 0 ? Integer.bitCount(best) : best;
    }

    int meet(int one, int other, int what) {
        if (!hasGoer(one) || !hasGoer(other) || one == other || !in(what, 0, 1)) return -1;
        Map<Integer, List<Integer>> a = w.rows(one), b = w.rows(other);
        int best = -1, steps = 1000;
        for (int place = 0; place < 120; place++) {
            if (!a.containsKey(place) || !b.containsKey(place)) continue;
            int longer = Math.max(a.get(place).size(), b.get(place).size());
            if (longer < steps) {
                steps = longer;
                best = place;
            }
        }
        return best < 0 ? -1 : what == 0 ? best : steps;
    }

    int seen(int arm, int many, int then) {
        if (!in(arm, 0, 9) || !in(many, 0, 19) || !in(then, 0, 19)) return told(-1);
        if (w.seen.size() == 6) return told(-5);
        w.seen = new ArrayList<>(w.seen);
        w.seen.add(new int[] {arm, many, then});
        return told(w.seen.size());
    }

    int forget() {
        int n = w.seen.size();
        w.seen = new ArrayList<>();
        return n;
    }

    int outcome(int kind, int arm, int many) {
        Map<String, Integer> words = w.words(kind, arm, many, 0, -1, -1);
        return w.bars(words) ? -1 : w.turns(words);
    }

    int kinds() {
        int bits = 0;
        for (int kind = 0; kind < 8; kind++) {
            boolean can = true;
            for (int[] s : w.seen) can &= outcome(kind, s[0], s[1]) == s[2];
            bits |= can ? 1 << kind : 0;
        }
        return bits;
    }

    int ask(int arm, int what) {
        int kinds = kinds();
        if (!in(arm, 0, 9) || !in(what, 0, 1) || kinds == 0) return -1;
        int best = -1, least = 9;
        for (int many = 0; many < 20; many++) {
            Map<Integer, Integer> alike = new HashMap<>();
            int most = 0;
            for (int kind = 0; kind < 8; kind++) {
                if ((kinds >> kind & 1) == 1) most = Math.max(most, alike.merge(outcome(kind, arm, many), 1, Integer::sum));
            }
            if (most < least) {
                least = most;
                best = many;
            }
        }
        return what == 0 ? best : least;
    }

    long few(int k, int n) {
        if (!in(k, 1, 20) || !in(n, 0, 99)) return -1;
        long[] p = new long[n + 1];
        p[0] = 1_000_000_000_000L;
        for (int i = 0; i < n; i++) {
            long[] q = new long[n + 1];
            for (int b = 0; b <= i; b++) {
                q[b] += p[b] * (10 - w.terms[1]) / 10;
                q[b + 1] += p[b] * w.terms[1] / 10;
            }
            p = q;
        }
        long all = 0;
        for (int b = 0; b < k && b <= n; b++) all += p[b];
        return all;
    }

    int compare(int law, int goer, int park, int many) {
        if (law < -1 || law >= w.laws.size() || !seeks(goer, park, many)) return -1;
        World p = w.copy();
        p.force = law;
        List<Integer> row = p.way(goer, park, many);
        return row == null ? -1 : row.size();
    }

    int days(int seed, int n) {
        if (!in(seed, 0, 1_000_000) || !in(n, 1, 60)) return told(-1);
        if (w.goers.isEmpty() || w.gates.isEmpty()) return told(-3);
        drawn = w.copy();
        long s = seed;
        int went = 0;
        for (int i = 0; i < n && drawn.terms[0] != 999; i++) {
            s = (s * 1103 + 12345) % 1_000_003;
            int goer = (int) (s % w.goers.size());
            s = (s * 1103 + 12345) % 1_000_003;
            if (drawn.go(goer, (int) (s % w.gates.size())) >= 0) went++;
            drawn.pass();
        }
        return told(went);
    }

    int drawn(int goer, int what) {
        if (drawn == null || !in(goer, 0, drawn.goers.size() - 1) || !in(what, 0, 2)) return -1;
        Goer g = drawn.goers.get(goer);
        return what == 0 ? g.park : what == 1 ? g.many : g.paid;
    }

    int image(int k) {
        if (!in(k, 0, 1)) return told(-1);
        images[k] = w.copy();
        return told(0);
    }

    int back(int k) {
        if (!in(k, 0, 1)) return told(-1);
        if (images[k] == null) return told(-2);
        w = images[k].copy();
        return anew(0);
    }

    int count(int what) {
        switch (what) {
            case 0: return w.gates.size();
            case 1: return w.goers.size();
            case 2: return w.goers.stream().mapToInt(g -> g.many).sum();
            case 3: return w.seen.size();
            case 4: return w.laws.size();
            case 5: return steps.size();
            case 6: return tape.length;
            case 7: return refused[1];
            case 8: return refused[2];
            case 9: return refused[3];
            case 10: return refused[5];
            case 11: return refused[6];
            case 12: return w.force;
            default: return in(what, 13, 15) ? w.terms[what - 13] : -1;
        }
    }
}
