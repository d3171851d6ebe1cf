/** Terms I, III and IV: each of their sentences that names an edge, told in the document's words. */
public final class TermEdgesTest {
    private static final Checks CHECKS = new Checks("TermEdgesTest");
    private static final long WHOLE = 1_000_000_000_000L;
    /** Numbers that are below and above whatever a limit is. */
    private static final int[] FAR = {Integer.MIN_VALUE, -1, 1000, Integer.MAX_VALUE};

    public static void main(String[] args) {
        parks();
        tenGates();
        gateNumbers();
        fiveGoers();
        goerNumbers();
        sixSeen();
        terms();
        firstOfRefusals();
        can();
        paidAtMost();
        stepsAtEnds();
        wayAtEnds();
        cheapAtEnds();
        manysAndReachAtEnds();
        waysAtEnds();
        likelyAtEnds();
        againAtEnds();
        fixedAtEnds();
        cutAtEnds();
        meetAtEnds();
        kindsAtEnds();
        askAtEnds();
        fewAtEnds();
        comparedAtEnds();
        daysAtEnds();
        drawsWrapAround();
        daysEndAtTheLast();
        rows();
        images();
        imagesOfAll();
        CHECKS.finish();
    }

    private static void sentence(String words) {
        CHECKS.sentence(words);
    }

    private static void due(String call, long got, long want) {
        CHECKS.due(call, got, want);
    }

    /** One gate from park 0 to park 1 and one goer in park 0. */
    private static CountGates one(int many) {
        CountGates x = new CountGates();
        x.gate(0, 1, 0, 0);
        x.goer(0, many, 0);
        return x;
    }

    private static void parks() {
        sentence("PARKS 0 .. 5.");
        CountGates x = new CountGates();
        due("from the first to the last", x.gate(0, 5, 0, 0), 0);
        due("from the last to the first", x.gate(5, 0, 0, 0), 1);
        due("a goer in the first", x.goer(0, 3, 0), 0);
        due("a goer in the last", x.goer(5, 3, 0), 1);
        for (int park : new int[] {Integer.MIN_VALUE, -1, 6, Integer.MAX_VALUE}) {
            due("from " + park, x.gate(park, 0, 0, 0), -1);
            due("to " + park, x.gate(0, park, 0, 0), -1);
            due("a goer in " + park, x.goer(park, 0, 0), -1);
            due("way to " + park, x.way(0, park, -1, -1), -1);
            due("cheap to " + park, x.cheap(0, park, -1), -1);
            due("manys in " + park, x.manys(0, park), -1);
            due("ways to " + park, x.ways(0, park, -1, 0), -1);
            due("likely in " + park, x.likely(0, park, -1, 0), -1);
            due("fixed to " + park, x.fixed(0, park, -1), -1);
            due("cut from " + park, x.cut(0, park, 0), -1);
            due("compare to " + park, x.compare(-1, 0, park, -1), -1);
        }
        due("way to the last", x.way(0, 5, -1, -1), 1);
        due("way to the first", x.way(1, 0, -1, -1), 1);
        due("reach of the last", x.reach(0), 1 | 32);
    }

    private static void tenGates() {
        sentence("GATES 0 .. 9 (10 at most)");
        CountGates x = new CountGates();
        x.goer(0, 19, 0);
        due("no gate 0", x.latch(0), -2);
        for (int gate = 0; gate < 10; gate++) {
            due("gate " + gate, x.gate(0, 0, 0, gate), gate);
        }
        due("the eleventh", x.gate(0, 0, 0, 0), -5);
        due("ten still", x.count(0), 10);
        due("arm of the last", x.at(9, 3), 9);
        due("through all", x.of(0, 4), 1023);
        for (int gate : new int[] {Integer.MIN_VALUE, -1, 10, Integer.MAX_VALUE}) {
            due("at " + gate, x.at(gate, 0), -1);
            due("asks " + gate, x.asks(0, gate, 0, 0), -1);
            due("go by " + gate, x.go(0, gate), -2);
            due("latch " + gate, x.latch(gate), -2);
            due("set " + gate, x.set(gate, 1), -2);
            due("again " + gate, x.again(0, gate, 0), -1);
        }
        due("through the last", x.go(0, 9), 18);
        due("latch the last", x.latch(9), 0);
        due("set the last", x.set(9, 0), 9);
        due("the last again and again", x.again(0, 9, 0), 18);
    }

    private static void gateNumbers() {
        sentence("FROM one PARK TO one (the same one, too)");
        CountGates x = new CountGates();
        due("to the same park", x.gate(3, 3, 0, 0), 0);
        x.goer(3, 2, 0);
        x.go(0, 0);
        due("in the same park", x.of(0, 0), 3);
        sentence("a KIND 0 .. 7");
        due("kind 0", x.gate(0, 0, 0, 0), 1);
        due("kind 7", x.gate(0, 0, 7, 0), 2);
        due("kind 8", x.gate(0, 0, 8, 0), -1);
        due("is 7", x.at(2, 2), 7);
        sentence("an ARM 0 .. 9");
        due("arm 9", x.gate(0, 0, 0, 9), 3);
        due("arm 10", x.gate(0, 0, 0, 10), -1);
        due("is 9", x.at(3, 3), 9);
        due("set as 9", x.set(0, 9), 0);
        due("set as 0", x.set(0, 0), 9);
        due("set as 10", x.set(0, 10), -1);
        due("seen by arm 9", x.seen(9, 0, 0), 1);
        due("seen by arm 10", x.seen(10, 0, 0), -1);
        due("ask arm 9", x.ask(9, 0), 0);
        due("ask arm 10", x.ask(10, 0), -1);
        for (int far : FAR) {
            due("kind " + far, x.gate(0, 0, far, 0), -1);
            due("arm " + far, x.gate(0, 0, 0, far), -1);
            due("set as " + far, x.set(0, far), -1);
            due("seen by arm " + far, x.seen(far, 0, 0), -1);
            due("ask arm " + far, x.ask(far, 0), -1);
        }
        sentence("OPEN (at first) or shut");
        due("open at first", x.at(3, 4), 1);
        x.latch(3);
        due("shut", x.at(3, 4), 0);
    }

    private static void fiveGoers() {
        sentence("GOERS 0 .. 4 (5 at most)");
        CountGates x = new CountGates();
        x.gate(0, 0, 0, 0);
        due("no goer 0", x.go(0, 0), -2);
        for (int goer = 0; goer < 5; goer++) {
            due("goer " + goer, x.goer(0, 10 + goer, 0), goer);
        }
        due("the sixth", x.goer(0, 0, 0), -5);
        due("five still", x.count(1), 5);
        for (int goer : new int[] {Integer.MIN_VALUE, -1, 5, Integer.MAX_VALUE}) {
            due("of " + goer, x.of(goer, 0), -1);
            due("asks " + goer, x.asks(goer, 0, 0, 0), -1);
            due("go " + goer, x.go(goer, 0), -2);
            due("way of " + goer, x.way(goer, 0, -1, -1), -1);
            due("cheap of " + goer, x.cheap(goer, 0, -1), -1);
            due("manys of " + goer, x.manys(goer, 0), -1);
            due("reach of " + goer, x.reach(goer), -1);
            due("ways of " + goer, x.ways(goer, 0, -1, 0), -1);
            due("likely of " + goer, x.likely(goer, 0, -1, 0), -1);
            due("again of " + goer, x.again(goer, 0, 0), -1);
            due("fixed of " + goer, x.fixed(goer, 0, -1), -1);
            due("cut of " + goer, x.cut(goer, 1, 0), -1);
            due("meet of " + goer, x.meet(goer, 0, 0), -1);
            due("meet with " + goer, x.meet(0, goer, 0), -1);
            due("compare of " + goer, x.compare(-1, goer, 0, -1), -1);
        }
        due("the last goes", x.go(4, 0), 13);
        due("the last meets the first", x.meet(0, 4, 0), 10);
    }

    private static void goerNumbers() {
        sentence("a PARK, MANY 0 .. 19, HURRY 0 .. 3, PAID (0 at first)");
        CountGates x = new CountGates();
        x.gate(5, 5, 0, 0);
        due("the least", x.goer(0, 0, 0), 0);
        due("the most", x.goer(5, 19, 3), 1);
        due("many 20", x.goer(0, 20, 0), -1);
        due("hurry 4", x.goer(0, 0, 4), -1);
        for (int far : FAR) {
            due("many " + far, x.goer(0, far, 0), -1);
            due("hurry " + far, x.goer(0, 0, far), -1);
            due("asks as " + far, x.asks(0, 0, far, 0), -1);
            due("cheap as " + far, x.cheap(0, 1, far), -1);
        }
        due("asks as 20", x.asks(0, 0, 20, 0), -1);
        due("is 19", x.of(1, 1), 19);
        due("hurry 3", x.of(1, 2), 3);
        due("nothing paid", x.of(1, 3), 0);
        x.image(0);
        x.goer(5, 9, 0);
        x.go(2, 0);
        x.back(0);
        x.goer(5, 9, 0);
        due("nothing paid where another had", x.of(2, 3), 0);
    }

    private static void sixSeen() {
        sentence("SEEN, 6 at most");
        CountGates x = new CountGates();
        for (int i = 1; i <= 6; i++) {
            due("seen " + i, x.seen(0, 4, i == 6 ? 0 : 3), i);
        }
        due("the sixth counts", x.kinds(), 0);
        due("the seventh", x.seen(0, 4, 3), -5);
        due("six still", x.count(3), 6);
        sentence("one that was so many (0 .. 19) came out as so many");
        CountGates y = new CountGates();
        due("the least", y.seen(0, 0, 0), 1);
        due("the most", y.seen(0, 19, 19), 2);
        due("was 20", y.seen(0, 20, 0), -1);
        due("came out as 20", y.seen(0, 0, 20), -1);
        for (int far : FAR) {
            due("was " + far, y.seen(0, far, 0), -1);
            due("came out as " + far, y.seen(0, 0, far), -1);
        }
        due("two still", y.count(3), 2);
    }

    private static void terms() {
        sentence("TERMS: 0 DAY 0 .. 999 (0 at first), 1 BITES 0 .. 10 (1), 2 MOOD 0 .. 9 (0).");
        CountGates x = new CountGates();
        int[] first = {0, 1, 0};
        int[] most = {999, 10, 9};
        for (int what = 0; what < 3; what++) {
            due("at first " + what, x.count(13 + what), first[what]);
            due("the most of " + what, x.terms(what, most[what]), first[what]);
            due("beyond the most of " + what, x.terms(what, most[what] + 1), -1);
            due("below 0 of " + what, x.terms(what, -1), -1);
            due("far of " + what, x.terms(what, Integer.MAX_VALUE), -1);
            due("is the most of " + what, x.count(13 + what), most[what]);
            due("0 of " + what, x.terms(what, 0), most[what]);
            due("so already of " + what, x.terms(what, 0), 0);
        }
        due("no term 3", x.terms(3, 0), -1);
        due("no term -1", x.terms(-1, 0), -1);
        due("no term far", x.terms(Integer.MIN_VALUE, 0), -1);
    }

    private static void firstOfRefusals() {
        sentence("The first of these in that order.");
        CountGates x = new CountGates();
        due("days: a number, no goers", x.days(-1, 1), -1);
        due("days: n, no goers", x.days(0, 0), -1);
        due("back: a number, not kept", x.back(2), -1);
        due("set: a number, no gate", x.set(0, 10), -1);
        due("set: no gate, its arm can't be looked at", x.set(0, 0), -2);
        x.gate(0, 0, 0, 0);
        x.goer(1, 0, 0);
        x.latch(0);
        due("go: no gate, and elsewhere", x.go(0, 1), -2);
        due("go: no goer, and shut", x.go(1, 0), -2);
        for (int i = 1; i < 10; i++) {
            x.gate(0, 0, 0, 0);
        }
        for (int i = 1; i < 5; i++) {
            x.goer(0, 0, 0);
        }
        for (int i = 0; i < 6; i++) {
            x.seen(0, 0, 0);
            Checks.law(x, "bars");
        }
        due("gate: a number, no room", x.gate(0, 0, 8, 0), -1);
        due("goer: a number, no room", x.goer(0, 0, 4), -1);
        due("seen: a number, no room", x.seen(0, 0, 20), -1);
        due("law: no room, a text that can't be", Checks.law(x, "("), -5);
        due("law: no room, no text", x.law(), -5);
    }

    private static void can() {
        sentence("A GOER CAN go through a GATE FROM the PARK where it is that is OPEN and from which it is not BARRED (as so many as it is)");
        CountGates x = one(5);
        Checks.force(x, "bars if many = 4");
        x.gate(1, 0, 0, 0);
        due("from elsewhere", x.go(0, 1), -3);
        due("bits without it", x.of(0, 4), 1);
        x.latch(0);
        due("shut", x.go(0, 0), -3);
        due("no bits", x.of(0, 4), 0);
        x.latch(0);
        due("as 5", x.go(0, 0), 4);
        due("no bits as 4", x.of(0, 4), 0);
        due("as 4", x.go(0, 1), -3);
        due("as it was", x.of(0, 0) * 100 + x.of(0, 1) * 10 + x.of(0, 3), 141);
    }

    private static void paidAtMost() {
        sentence("PAID is more by what it PAYS (9,999 at most; all asked as it was ahead)");
        CountGates x = new CountGates();
        x.gate(0, 0, 0, 0);
        x.goer(0, 9, 0);
        Checks.force(x, "turns 9; turns 3 if day = 1; pays many");
        for (int i = 0; i < 4; i++) {
            Checks.orders(x, "go 0 by 0 times 20" + ";go 0 by 0 times 20".repeat(11));
        }
        Checks.orders(x, "go 0 by 0 times 20" + ";go 0 by 0 times 20".repeat(6) + ";go 0 by 0 times 10");
        due("9 for each of 1110", x.of(0, 3), 9990);
        x.image(0);
        x.go(0, 0);
        due("just the most", x.of(0, 3), 9999);
        x.go(0, 0);
        due("no more than the most", x.of(0, 3), 9999);
        x.back(0);
        x.pass();
        x.go(0, 0);
        due("pays as 9, though it is 3 then", x.of(0, 3), 9999);
        x.undo();
        due("paid is as it was", x.of(0, 3), 9990);
        due("in days too", x.days(0, 60), 60);
        due("the most in days", x.drawn(0, 2), 9999);
    }

    private static void stepsAtEnds() {
        sentence("To LATCH: an OPEN GATE is shut, a shut one OPEN.");
        CountGates x = one(5);
        due("shut", x.latch(0), 0);
        due("open", x.latch(0), 1);
        sentence("To SET: an ARM is another one.");
        due("the same", x.set(0, 0), -3);
        due("another", x.set(0, 9), 0);
        due("is", x.at(0, 3), 9);
        sentence("A DAY passes (DAY below 999).");
        x.terms(0, 998);
        due("to 999", x.pass(), 999);
        due("no further", x.pass(), -3);
        due("999 still", x.count(13), 999);
        due("the last pass undone", x.undo(), 3);
        due("998", x.count(13), 998);
    }

    private static void wayAtEnds() {
        sentence("MANY told: as so many there; NONE: any.");
        CountGates x = one(5);
        x.gate(1, 1, 0, 0);
        due("as any", x.way(0, 1, -1, -1), 1);
        due("as 4", x.way(0, 1, 4, -1), 1);
        due("as 0", x.way(0, 1, 0, -1), 5);
        due("as 5", x.way(0, 1, 5, -1), -1);
        due("as 19", x.way(0, 1, 19, -1), -1);
        due("as 20", x.way(0, 1, 20, -1), -1);
        due("as -2", x.way(0, 1, -2, -1), -1);
        sentence("the first as a row of GATES (0, if so now)");
        due("so now", x.way(0, 0, 5, -1), 0);
        due("so now, as any", x.way(0, 0, -1, -1), 0);
        due("no first gate then", x.way(0, 0, -1, 0), -1);
        CountGates y = new CountGates();
        y.gate(1, 3, 0, 0);
        y.gate(0, 2, 0, 0);
        y.gate(0, 1, 0, 0);
        y.gate(2, 3, 0, 0);
        y.goer(0, 9, 0);
        due("two rows of two", y.way(0, 3, -1, -1), 2);
        due("the first begins lower", y.way(0, 3, -1, 0), 1);
        due("though it ends higher", y.way(0, 3, -1, 1), 3);
        due("the first as 7, too", y.way(0, 3, 7, 0), 1);
        CountGates z = new CountGates();
        z.gate(0, 1, 0, 0);
        z.gate(1, 2, 0, 0);
        z.gate(0, 2, 0, 0);
        z.goer(0, 9, 0);
        due("the fewest, though not the first", z.way(0, 2, -1, 0), 2);
    }

    private static void cheapAtEnds() {
        sentence("CHEAP: what it PAYS on any such row together, at least.");
        CountGates x = one(5);
        x.gate(0, 2, 0, 0);
        x.gate(2, 1, 0, 0);
        Checks.force(x, "pays 9; pays 0 if gate > 0");
        due("so now", x.cheap(0, 0, 5), 0);
        due("two gates for nothing", x.cheap(0, 1, -1), 0);
        due("as 4 by the dear one", x.cheap(0, 1, 4), 9);
        due("no row", x.cheap(0, 1, 5), -1);
        CountGates y = new CountGates();
        y.gate(0, 0, 0, 0);
        y.goer(0, 19, 0);
        Checks.force(y, "pays 100");
        due("the dearest row", y.cheap(0, 0, 0), 19 * 9);
        CountGates z = new CountGates();
        z.gate(0, 2, 0, 0);
        z.gate(0, 1, 0, 0);
        z.gate(1, 2, 0, 0);
        z.goer(0, 9, 0);
        Checks.force(z, "turns 4; pays 9; pays many / 4 if gate > 0");
        due("two cheap ones, 9 / 4 and 4 / 4, not the dear one", z.cheap(0, 2, 4), 3);
    }

    private static void manysAndReachAtEnds() {
        sentence("MANYS: as how many it can come to a PARK (there now, too).");
        CountGates x = one(19);
        due("there now alone", x.manys(0, 0), 1 << 19);
        due("there", x.manys(0, 1), 1 << 18);
        due("nowhere else", x.manys(0, 2), 0);
        sentence("REACH: PARKS it can come to (where it is, too).");
        due("both", x.reach(0), 3);
        x.latch(0);
        due("where it is alone", x.reach(0), 1);
        x.goer(5, 0, 0);
        due("the last alone", x.reach(1), 32);
        due("there now as 0", x.manys(1, 5), 1);
        x.goer(0, 0, 0);
        due("the first alone", x.reach(2), 1);
        CountGates y = new CountGates();
        y.gate(3, 2, 0, 0);
        y.goer(3, 5, 0);
        Checks.force(y, "bars");
        due("where it is alone, as barred", y.reach(0), 8);
        due("not to the first as 0", y.way(0, 0, 0, -1), -1);
        due("nor by steps", y.likely(0, 3, 5, 1), WHOLE);
        due("nor in any row", y.ways(0, 0, 0, 1), 0);
    }

    private static void waysAtEnds() {
        sentence("WAYS: how many rows of n GATES that it CAN go through one behind the other end so.");
        CountGates x = one(5);
        due("none of none", x.ways(0, 0, 5, 0), 1);
        due("none of none, as any", x.ways(0, 0, -1, 0), 1);
        due("none of none elsewhere", x.ways(0, 1, -1, 0), 0);
        due("none as another", x.ways(0, 0, 4, 0), 0);
        due("one of one", x.ways(0, 1, 4, 1), 1);
        due("it does not stay", x.ways(0, 1, 4, 2), 0);
        CountGates y = new CountGates();
        for (int i = 0; i < 10; i++) {
            y.gate(0, 0, 0, 0);
        }
        y.goer(0, 19, 0);
        due("the most", y.ways(0, 0, 7, 12), WHOLE);
    }

    private static void likelyAtEnds() {
        sentence("each part goes alike to each GATE it CAN go through from there (cut; what is cut off is nothing), where there is none it stays");
        CountGates x = new CountGates();
        x.gate(0, 1, 0, 0);
        x.gate(0, 1, 0, 0);
        x.gate(0, 2, 0, 0);
        x.goer(0, 19, 0);
        due("now", x.likely(0, 0, 19, 0), WHOLE);
        due("a third, cut", x.likely(0, 2, -1, 1), 333_333_333_333L);
        due("two thirds, each cut", x.likely(0, 1, 18, 1), 666_666_666_666L);
        due("what is cut off is nowhere", x.likely(0, 0, -1, 1), 0);
        due("it stays", x.likely(0, 1, 18, 30), 666_666_666_666L);
        CountGates y = new CountGates();
        for (int i = 0; i < 10; i++) {
            y.gate(0, i == 0 ? 0 : 1, 0, 0);
        }
        y.goer(0, 0, 0);
        due("a tenth of a tenth to the last part", y.likely(0, 0, 0, 12), 1);
        due("less than one part is nothing", y.likely(0, 0, 0, 13), 0);
        due("shut: it stays", shutLikely(), WHOLE);
    }

    private static long shutLikely() {
        CountGates x = one(7);
        x.latch(0);
        return x.likely(0, 0, 7, 30);
    }

    private static void againAtEnds() {
        sentence("as if that led back (shut, BARRED aside)");
        CountGates x = one(5);
        x.goer(4, 19, 0);
        x.goer(0, 0, 0);
        x.latch(0);
        due("shut", x.again(0, 0, 0), 5);
        due("from elsewhere", x.again(1, 0, 0), 19);
        Checks.force(x, "bars");
        due("barred", x.again(0, 0, 0), 5);
        sentence("how many times till a MANY comes that was there ahead (STEPS ahead of its first time), and after how many that comes each time");
        due("the longest tail", x.again(1, 0, 0), 19);
        due("then each time", x.again(1, 0, 1), 1);
        due("at once", x.again(2, 0, 0), 0);
        due("at once each time", x.again(2, 0, 1), 1);
        Checks.force(x, "turns [many + 1] % 20");
        due("all twenty, no tail", x.again(0, 0, 0), 0);
        due("all twenty round", x.again(0, 0, 1), 20);
        Checks.force(x, "turns many + 1; turns 18 if many = 19");
        due("a tail to the last two", x.again(2, 0, 0), 18);
        due("the last two", x.again(2, 0, 1), 2);
    }

    private static void fixedAtEnds() {
        sentence("FIXED: the first GATE and ARM (ten times the GATE and the ARM, the lowest; the ARM another one than now) by which there would be a WAY.");
        CountGates x = one(5);
        Checks.force(x, "turns arm");
        due("as 0 now", x.fixed(0, 1, 0), 100);
        due("as 9", x.fixed(0, 1, 9), 9);
        due("as 10", x.fixed(0, 1, 10), -1);
        due("here", x.fixed(0, 0, -1), 100);
        x.latch(0);
        due("a shut gate's arm is no way", x.fixed(0, 1, 9), -1);
        CountGates y = new CountGates();
        for (int i = 0; i < 10; i++) {
            y.gate(0, i == 9 ? 1 : 2, 0, 0);
        }
        y.goer(0, 5, 0);
        Checks.force(y, "bars if arm < 9");
        due("the last of all", y.fixed(0, 1, -1), 99);
        due("the lowest gate", y.fixed(0, 2, -1), 9);
        CountGates z = new CountGates();
        z.gate(0, 0, 0, 0);
        z.goer(0, 5, 0);
        Checks.force(z, "turns many; bars if not arm = 0");
        due("the arm it has is no other one", z.fixed(0, 0, 4), -1);
        due("by arm 0", fixedByTheLowestArm(), 0);
        due("one gate's arm alone", fixedByOneAlone(), 14);
        due("of one who is none", fixedOfNone(), 7);
    }

    private static int fixedByTheLowestArm() {
        CountGates x = new CountGates();
        x.gate(0, 1, 0, 5);
        x.goer(0, 5, 0);
        Checks.force(x, "bars if arm > 0");
        return x.fixed(0, 1, -1);
    }

    /** Gate 0 must keep its arm, while gate 1 needs another. */
    private static int fixedByOneAlone() {
        CountGates x = one(5);
        x.gate(1, 2, 0, 0);
        Checks.force(x, "bars if gate = 0 and arm > 0; bars if gate = 1 and arm < 4");
        return x.fixed(0, 2, -1);
    }

    private static int fixedOfNone() {
        CountGates x = one(0);
        Checks.force(x, "turns arm");
        return x.fixed(0, 1, 7);
    }

    private static void cutAtEnds() {
        sentence("CUT: the fewest OPEN GATES by which, if they were shut, a GOER could not come to a PARK (as any); the lowest as bits.");
        CountGates x = new CountGates();
        for (int i = 0; i < 10; i++) {
            x.gate(0, 1, 0, 0);
        }
        x.gate(0, 1, 0, 0);
        x.goer(0, 5, 0);
        due("all ten", x.cut(0, 1, 0), 10);
        due("all ten as bits", x.cut(0, 1, 1), 1023);
        x.latch(0);
        due("the open ones", x.cut(0, 1, 1), 1022);
        due("none to shut", x.cut(0, 2, 0), 0);
        due("none as bits", x.cut(0, 2, 1), 0);
        CountGates y = new CountGates();
        y.gate(2, 3, 0, 0);
        y.gate(1, 2, 0, 0);
        y.gate(0, 1, 0, 0);
        y.goer(0, 5, 0);
        due("one of three in a row", y.cut(0, 3, 0), 1);
        due("the lowest of them", y.cut(0, 3, 1), 1);
    }

    private static void meetAtEnds() {
        sentence("the longer of which is as short as can be; the lowest");
        CountGates x = new CountGates();
        x.gate(0, 5, 0, 0);
        x.gate(0, 2, 0, 0);
        x.gate(1, 5, 0, 0);
        x.gate(1, 2, 0, 0);
        x.goer(0, 19, 0);
        x.goer(1, 19, 0);
        x.goer(1, 19, 0);
        due("park 2, though gates 0 and 2 lead to 5", x.meet(0, 1, 0), 58);
        due("how long", x.meet(0, 1, 1), 1);
        due("where they are", x.meet(1, 2, 0), 39);
        due("none long", x.meet(1, 2, 1), 0);
        x.latch(1);
        due("the last place but one", x.meet(0, 1, 0), 118);
        x.latch(0);
        due("they can't", x.meet(0, 1, 0), -1);
        CountGates y = new CountGates();
        y.goer(0, 0, 0);
        y.goer(0, 0, 0);
        y.goer(5, 19, 0);
        y.goer(5, 19, 0);
        due("the lowest place of all", y.meet(0, 1, 0), 0);
        due("the highest place of all", y.meet(2, 3, 0), 119);
        CountGates z = new CountGates();
        z.gate(0, 0, 0, 0);
        z.goer(0, 9, 0);
        z.goer(0, 4, 0);
        due("where the other is, as it is", z.meet(0, 1, 0), 4);
        due("the longer of 5 and 0", z.meet(0, 1, 1), 5);
        z.goer(0, 0, 0);
        due("park 0 as 0", z.meet(0, 2, 0), 0);
        due("the longer of 9 and 0", z.meet(0, 2, 1), 9);
    }

    private static void kindsAtEnds() {
        sentence("KINDS that it can be: by which one would not be BARRED and come out so in all SEEN.");
        CountGates x = new CountGates();
        due("all, nothing seen", x.kinds(), 255);
        Checks.force(x, "turns many; bars if kind = 0; turns 19 if kind = 7");
        due("nothing seen, though barred", x.kinds(), 255);
        x.seen(0, 19, 19);
        due("the first barred", x.kinds(), 254);
        x.seen(0, 3, 19);
        due("the last alone", x.kinds(), 128);
        x.seen(0, 3, 3);
        due("none", x.kinds(), 0);
    }

    private static void askAtEnds() {
        sentence("the MANY of which the most of these KINDS turn alike (BARRED: alike) are as few as can be; the lowest");
        CountGates x = new CountGates();
        due("all alike: as 0", x.ask(0, 0), 0);
        due("all alike: 8", x.ask(0, 1), 8);
        Checks.force(x, "turns 0; turns kind if many = 19 or many = 18");
        due("the lowest of two", x.ask(0, 0), 18);
        due("one of each", x.ask(0, 1), 1);
        Checks.force(x, "turns 0; turns kind if many = 19");
        due("the last", x.ask(0, 0), 19);
        Checks.force(x, "turns 0; turns kind if many > 19 or many < 0");
        due("none but 0 .. 19", x.ask(0, 0), 0);
        due("all alike from 0 to 19", x.ask(0, 1), 8);
        Checks.force(x, "turns kind; bars if kind > 2");
        due("five barred are alike", x.ask(0, 1), 5);
        x.seen(0, 0, 0);
        due("the first kind alone", x.ask(0, 1), 1);
        x.forget();
        x.seen(0, 0, 2);
        due("one kind alone", x.ask(0, 1), 1);
        due("as 0", x.ask(0, 0), 0);
        x.seen(0, 0, 3);
        due("no kinds", x.ask(0, 0), -1);
        due("no kinds left", x.ask(0, 1), -1);
    }

    private static void fewAtEnds() {
        sentence("each of whom is bitten in BITES of ten, fewer than k are: each part is cut");
        CountGates x = new CountGates();
        due("none of none", x.few(1, 0), WHOLE);
        due("the most allowed of none", x.few(20, 0), WHOLE);
        due("fewer than one of one", x.few(1, 1), 900_000_000_000L);
        due("fewer than two of one", x.few(2, 1), WHOLE);
        x.terms(1, 5);
        due("halves to the last", x.few(1, 12), 244_140_625L);
        due("a half of one part is nothing", x.few(1, 13), 122_070_312L);
        x.terms(1, 9);
        due("a tenth twelve times", x.few(1, 12), 1);
        due("once more", x.few(1, 13), 0);
        x.terms(1, 0);
        due("never", x.few(1, 99), WHOLE);
        x.terms(1, 10);
        due("always: 19 of 19", x.few(20, 19), WHOLE);
        due("always: 20 of 20", x.few(20, 20), 0);
        due("always: 99 of 99", x.few(20, 99), 0);
    }

    private static void comparedAtEnds() {
        sentence("COMPARED: how many GATES a WAY has by a LAW in place of that in FORCE (NONE: none).");
        CountGates x = one(5);
        Checks.law(x, "turns 19");
        due("by the law, not in force", x.compare(0, 0, 1, 19), 1);
        due("by none", x.compare(-1, 0, 1, 4), 1);
        x.force(0);
        due("by none in place of it", x.compare(-1, 0, 1, 4), 1);
        due("so now", x.compare(0, 0, 0, 5), 0);
        due("no way", x.compare(0, 0, 1, 4), -1);
        due("no law 1", x.compare(1, 0, 0, 5), -1);
        due("no law -2", x.compare(-2, 0, 0, 5), -1);
        due("in force still", x.count(12), 0);
    }

    private static void daysAtEnds() {
        sentence("DAYS with a SEED, n 1 .. 60, on paper: s is the SEED (0 .. 1,000,000)");
        CountGates x = one(5);
        due("n 1", x.days(0, 1), 1);
        due("n 60", x.days(0, 60), 1);
        due("n 0", x.days(0, 0), -1);
        due("n 61", x.days(0, 61), -1);
        due("seed 1000000", x.days(1_000_000, 1), 1);
        due("seed 1000001", x.days(1_000_001, 1), -1);
        due("seed -1", x.days(-1, 1), -1);
        for (int far : new int[] {Integer.MIN_VALUE, Integer.MAX_VALUE}) {
            due("seed " + far, x.days(far, 1), -1);
            due("n " + far, x.days(0, far), -1);
        }
        due("on paper", x.of(0, 1), 5);
        due("no day has passed", x.count(13), 0);
    }

    private static void drawsWrapAround() {
        sentence("s becomes (s times 1103 and 12345) modulo 1,000,003, it is s modulo m");
        for (int seed : new int[] {0, 1, 894, 895, 906, 1000, 54_321, 999_999, 1_000_000}) {
            drawsOf(seed);
        }
    }

    /** Five goers, seven gates back to where they begin: who went by which, as reckoned by long numbers. */
    private static void drawsOf(int seed) {
        CountGates x = new CountGates();
        for (int i = 0; i < 7; i++) {
            x.gate(0, 0, i, 0);
        }
        for (int i = 0; i < 5; i++) {
            x.goer(0, 0, 0);
        }
        Checks.force(x, "turns gate * 2 + day % 2; pays gate");
        int[] many = new int[5];
        int[] paid = new int[5];
        long s = seed;
        for (int day = 0; day < 60; day++) {
            s = (s * 1103 + 12345) % 1_000_003;
            int goer = (int) (s % 5);
            s = (s * 1103 + 12345) % 1_000_003;
            int gate = (int) (s % 7);
            many[goer] = gate * 2 + day % 2;
            paid[goer] += gate;
        }
        due("all went from " + seed, x.days(seed, 60), 60);
        for (int goer = 0; goer < 5; goer++) {
            due("many of " + goer + " from " + seed, x.drawn(goer, 1), many[goer]);
            due("paid by " + goer + " from " + seed, x.drawn(goer, 2), paid[goer]);
        }
    }

    private static void daysEndAtTheLast() {
        sentence("Each time (at DAY 999 it ends) DRAWS of GOERS, of GATES: that GOER goes through that GATE, if it CAN; then the DAY passes.");
        CountGates x = new CountGates();
        x.gate(0, 0, 0, 0);
        x.goer(0, 19, 0);
        x.terms(0, 939);
        due("sixty to the last day", x.days(0, 60), 60);
        x.terms(0, 940);
        due("one fewer", x.days(0, 60), 59);
        x.terms(0, 998);
        due("one left", x.days(0, 60), 1);
        x.terms(0, 999);
        due("none left", x.days(0, 60), 0);
        due("the latest", x.drawn(0, 2), 0);
        Checks.force(x, "bars if day > 2");
        x.terms(0, 0);
        due("days 0, 1, 2, barred then", x.days(0, 60), 3);
    }

    private static void rows() {
        sentence("one that can't be, one within which the TAPE ends, one for which there is no room is RUST: nothing");
        CountGates x = new CountGates();
        Checks.write(x, new byte[] {5, 5, 7, 9, 6, 0, 0, 0, 0, 6, 0, 0, 0, 0, 8, 0, 0, 0, 0, 10, (byte) 128, 0, 0, 0, 0, 0, 0, (byte) 255});
        due("one of seven", x.row(), 1);
        due("six times rust", x.rust(), 6);
        for (int left = 1; left <= 3; left++) {
            Checks.write(x, new byte[left]);
            due("ends within one, " + left, x.row(), 0);
            due("rust, " + left, x.rust(), 1);
        }
        due("one gate", x.count(0), 1);
        Checks.write(x, new byte[400]);
        due("nine more", x.row(), 9);
        due("no room for 91", x.rust(), 91);
        Checks.write(x, new byte[4]);
        due("none", x.row(), 0);
        due("no room for one", x.rust(), 1);
        due("that is not refused", x.status(), 0);
        due("ten gates", x.count(0), 10);
    }

    private static void images() {
        sentence("IMAGES 0, 1 keep all but the TAPE, FAULT, RUST, where ORDERS stopped, what can be undone (nothing, behind back()), the latest DAYS; BACK to one all that it keeps is as it was then (IMAGES stay).");
        CountGates x = one(5);
        due("image 0", x.image(0), 0);
        due("image 1", x.image(1), 0);
        due("image 2", x.image(2), -1);
        due("image -1", x.image(-1), -1);
        String ahead = Snapshot.of(x);
        x.go(0, 0);
        x.set(0, 4);
        x.image(1);
        Checks.law(x, "bars if");
        Checks.orders(x, "latch 5");
        Checks.write(x, "four");
        x.days(0, 1);
        due("back 0", x.back(0), 0);
        due("stopped stays", x.stopped(), 0);
        due("tape stays", x.count(6), 4);
        due("days stay", x.drawn(0, 1), 4);
        due("nothing to undo", x.count(5), 0);
        due("undo", x.undo(), -3);
        due("back 1", x.back(1), 0);
        due("as it was at image 1", x.of(0, 1) * 10 + x.at(0, 3), 44);
        x.image(1);
        CountGates y = one(5);
        y.image(0);
        y.latch(0);
        y.back(0);
        due("all as it was", Snapshot.of(y).equals(ahead) ? 1 : 0, 1);
        y.latch(0);
        y.back(0);
        due("and once more", Snapshot.of(y).equals(ahead) ? 1 : 0, 1);
    }

    /** Two worlds that differ in all that can be, and back and forth between them. */
    private static void imagesOfAll() {
        sentence("all that it keeps is as it was then");
        CountGates x = new CountGates();
        x.image(1);
        world(x, 1);
        x.image(0);
        String first = Snapshot.of(x);
        x.back(1);
        world(x, 2);
        x.image(1);
        String second = Snapshot.of(x);
        due("they differ", first.equals(second) ? 1 : 0, 0);
        due("a kind that it can be", x.kinds(), 1 << 5);
        x.back(0);
        due("as the first was", Snapshot.of(x).equals(first) ? 1 : 0, 1);
        x.back(1);
        due("as the second was", Snapshot.of(x).equals(second) ? 1 : 0, 1);
    }

    private static void world(CountGates x, int n) {
        for (int i = 0; i < 5 * n; i++) {
            x.gate(i % 2 + n, (i + 1) % 2 + n, 2 * n + 1, i % 5 + n);
        }
        for (int i = 0; i < 2 * n; i++) {
            x.goer(n, 7 * n + i, n);
        }
        Checks.law(x, "bars if hurry = 0");
        Checks.law(x, "turns many + " + n + " * arm; pays kind; turns [kind + arm + many] % 20 if gate < 0");
        x.force(1);
        for (int i = 0; i < 3 * n; i++) {
            x.seen(n, 4 * n, (2 * n + 1 + n + 4 * n) % 20);
        }
        x.go(0, 1 - n % 2);
        x.go(0, n % 2);
        x.latch(n);
        x.terms(1, n + 1);
        x.terms(2, n + 2);
        x.terms(0, n);
    }
}
