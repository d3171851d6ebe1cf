import java.util.Random;

/** Runs of calls by chance, each answer compared with the oracle's. */
public final class OracleTest {
    private static final int[] WILD = {-1, -2, Integer.MIN_VALUE, Integer.MAX_VALUE, 400, 20, 1000};
    private final Checks checks;
    private final Random random;
    private final Texts texts;
    private final CountGates x = new CountGates();
    private final Oracle o = new Oracle();
    private final String name;
    /** Few parks, many gates and lively laws, so that there are more ways to find; else whatever comes. */
    private final boolean busy;

    private OracleTest(Checks checks, long seed) {
        this.checks = checks;
        random = new Random(seed);
        texts = new Texts(random);
        name = "seed " + seed + " ";
        busy = seed % 3 != 0;
    }

    public static void main(String[] args) {
        Checks checks = new Checks("OracleTest");
        int first = args.length > 1 ? Integer.parseInt(args[1]) : 0;
        int runs = args.length > 2 ? Integer.parseInt(args[2]) : 120;
        for (int seed = first; seed < first + runs; seed++) {
            new OracleTest(checks, seed).run();
        }
        checks.finish();
    }

    private boolean oneIn(int n) {
        return random.nextInt(n) == 0;
    }

    /** A number that mostly can be. */
    private int upTo(int most) {
        if (oneIn(25)) {
            return oneIn(2) ? most + 1 : WILD[random.nextInt(WILD.length)];
        }
        return random.nextInt(most + 1);
    }

    private int aGoer() {
        return oneIn(15) ? upTo(4) : random.nextInt(Math.max(1, o.w.goers.size()));
    }

    private int aGate() {
        return oneIn(15) ? upTo(9) : random.nextInt(Math.max(1, o.w.gates.size()));
    }

    private int many() {
        return oneIn(2) ? -1 : upTo(19);
    }

    private int aPark() {
        return busy && !oneIn(8) || !oneIn(3) ? upTo(2) : upTo(5);
    }

    /** A gate that the goer mostly can go through, if it is busy and there is one. */
    private int aGateFor(int goer) {
        int gate = aGate();
        for (int i = 0; i < 10 && busy && o.hasGoer(goer) && o.hasGate(gate) && !o.w.can(goer, gate); i++) {
            gate = random.nextInt(o.w.gates.size());
        }
        return gate;
    }

    private void due(String call, long got, long want) {
        checks.due(name + call, got, want);
    }

    private void run() {
        int calls = 0;
        int gates = busy ? 4 + random.nextInt(8) : random.nextInt(oneIn(3) ? 11 : 7);
        for (; calls < gates; calls++) {
            makeGate();
        }
        for (int i = busy ? 2 + random.nextInt(4) : random.nextInt(6); i > 0; i--, calls++) {
            makeGoer();
        }
        while (calls < 470) {
            calls += 1;
            int r = random.nextInt(100);
            if (r < 8) {
                calls += text();
            } else if (r < 45) {
                change();
            } else {
                look();
            }
            if (oneIn(6)) {
                inspect();
                calls += 1;
            }
        }
    }

    private void makeGate() {
        int from = aPark(), to = aPark(), kind = upTo(7), arm = upTo(9);
        due("gate", x.gate(from, to, kind, arm), o.gate(from, to, kind, arm));
    }

    private void makeGoer() {
        int park = aPark(), many = upTo(19), hurry = upTo(3);
        due("goer", x.goer(park, many, hurry), o.goer(park, many, hurry));
    }

    private int text() {
        int which = random.nextInt(9);
        if (which == 8) {
            return gateRow();
        }
        boolean law = which < 5;
        String text = busy && !oneIn(4) ? law ? texts.livelyLaw() : texts.livelyOrders(aGateFor(0))
                : law ? texts.law() : texts.orders();
        Checks.write(x, text);
        o.tape = text.getBytes(java.nio.charset.StandardCharsets.ISO_8859_1);
        if (law) {
            int number = o.law();
            due("law " + text, x.law(), number);
            if (number >= 0 && !oneIn(4)) {
                due("force", x.force(number), o.force(number));
            }
        } else {
            due("orders " + text, x.orders(), o.orders());
            due("stopped " + text, x.stopped(), o.stopped);
        }
        due("fault " + text, x.fault(), o.fault);
        return 2 + text.length() / 20;
    }

    private int gateRow() {
        if (o.w.gates.size() > 6 && !oneIn(5)) {
            return 0;
        }
        byte[] row = new byte[random.nextInt(12)];
        for (int i = 0; i < row.length; i++) {
            row[i] = (byte) (oneIn(20) ? random.nextInt(256) : random.nextInt(6));
        }
        Checks.write(x, row);
        o.tape = row;
        due("row", x.row(), o.row());
        due("rust", x.rust(), o.rust);
        return 3;
    }

    private void change() {
        int a, b;
        switch (random.nextInt(20)) {
            case 0: if (oneIn(6)) makeGate(); break;
            case 1: if (oneIn(4)) makeGoer(); break;
            case 2: a = upTo(2); b = upTo(oneIn(4) ? 999 : 9); due("terms", x.terms(a, b), o.terms(a, b)); break;
            case 3: a = upTo(5); due("force", x.force(a), o.force(a)); break;
            case 4: case 5: case 6: case 7: case 8:
                a = aGoer(); b = aGateFor(a); due("go", x.go(a, b), o.go(a, b)); break;
            case 9: case 10: latch(); break;
            case 11: case 12: a = aGate(); b = upTo(9); due("set", x.set(a, b), o.set(a, b)); break;
            case 13: due("pass", x.pass(), o.pass()); break;
            case 14: case 15: due("undo", x.undo(), o.undo()); break;
            case 16: see(); break;
            case 17: if (!busy || oneIn(3)) due("forget", x.forget(), o.forget()); break;
            case 18: a = upTo(1); due("image", x.image(a), o.image(a)); break;
            default: a = upTo(1); due("back", x.back(a), o.back(a)); break;
        }
    }

    /** If it is busy, shut gates are mostly opened again. */
    private void latch() {
        int gate = aGate();
        if (!busy || !o.hasGate(gate) || !o.w.gates.get(gate).open || oneIn(3)) {
            due("latch", x.latch(gate), o.latch(gate));
        }
    }

    /** If it is busy, what is seen is mostly what a gate of kind 0, 1 or 2 would do. */
    private void see() {
        int arm = upTo(9), many = upTo(19), then = oneIn(2) ? Math.max(0, many - 1) : upTo(19);
        if (busy && !oneIn(4)) {
            then = Math.max(0, o.outcome(random.nextInt(3), arm, many));
        }
        due("seen", x.seen(arm, many, then), o.seen(arm, many, then));
    }

    private void look() {
        int a = aGoer(), p = busy ? aPark() : upTo(5), m = many(), g = aGate(), n;
        switch (random.nextInt(24)) {
            case 0: n = oneIn(2) ? -1 : upTo(5); due("way", x.way(a, p, m, n), o.way(a, p, m, n)); break;
            case 1: wholeWay(a, p, m); break;
            case 2: case 3: due("cheap", x.cheap(a, p, m), o.cheap(a, p, m)); break;
            case 4: due("manys", x.manys(a, p), o.manys(a, p)); break;
            case 5: due("reach", x.reach(a), o.reach(a)); break;
            case 6: case 7: n = upTo(12); due("ways", x.ways(a, p, m, n), o.ways(a, p, m, n)); break;
            case 8: case 9: n = upTo(30); due("likely", x.likely(a, p, m, n), o.likely(a, p, m, n)); break;
            case 10: n = upTo(1); due("again", x.again(a, g, n), o.again(a, g, n)); break;
            case 11: due("fixed", x.fixed(a, p, m), o.fixed(a, p, m)); break;
            case 12: if (o.w.gates.size() < 7 || oneIn(12)) { n = upTo(1); due("cut", x.cut(a, p, n), o.cut(a, p, n)); } break;
            case 13: case 14: g = aGoer(); n = upTo(1); due("meet", x.meet(a, g, n), o.meet(a, g, n)); break;
            case 15: due("kinds", x.kinds(), o.kinds()); break;
            case 16: g = upTo(9); n = upTo(1); due("ask", x.ask(g, n), o.ask(g, n)); break;
            case 17: g = 1 + upTo(19); n = upTo(99); due("few", x.few(g, n), o.few(g, n)); break;
            case 18: n = upTo(5); due("compare", x.compare(n, a, p, m), o.compare(n, a, p, m)); break;
            case 19: case 20: g = upTo(1_000_000); n = upTo(60); due("days", x.days(g, n), o.days(g, n)); break;
            case 21: n = upTo(2); due("drawn", x.drawn(a, n), o.drawn(a, n)); break;
            case 22: n = upTo(4); due("of", x.of(a, n), o.of(a, n)); break;
            default: n = upTo(2); m = upTo(19); due("asks", x.asks(a, g, m, n), o.asks(a, g, m, n)); break;
        }
    }

    private void wholeWay(int goer, int park, int many) {
        int length = o.way(goer, park, many, -1);
        for (int i = -1; i <= length; i++) {
            due("way " + i, x.way(goer, park, many, i), o.way(goer, park, many, i));
        }
    }

    private void inspect() {
        int a, b;
        switch (random.nextInt(4)) {
            case 0: a = upTo(16) - 1; due("count " + a, x.count(a), o.count(a)); break;
            case 1: a = aGate(); b = upTo(4); due("at", x.at(a, b), o.at(a, b)); break;
            case 2: a = aGoer(); b = upTo(4); due("of", x.of(a, b), o.of(a, b)); break;
            default: due("status", x.status(), o.status); break;
        }
    }
}
