/** Promises 22 to 31 and 37: what one could do on paper. */
public final class PaperTest {
    private static final Checks CHECKS = new Checks("PaperTest");

    public static void main(String[] args) {
        way();
        wayIsTheFirst();
        wayRoundAbout();
        cheap();
        allPlaces();
        manysAndReach();
        ways();
        likely();
        again();
        fixed();
        cut();
        cutLowest();
        meet();
        compare();
        wrongNumbers();
        onPaper();
        CHECKS.finish();
    }

    private static void due(String call, long got, long want) {
        CHECKS.due(call, got, want);
    }

    private static void rowOfGates(String name, CountGates x, int park, int many, int... gates) {
        due(name, x.way(0, park, many, -1), gates.length);
        for (int i = 0; i < gates.length; i++) {
            due(name + " " + i, x.way(0, park, many, i), gates[i]);
        }
        due(name + " behind", x.way(0, park, many, gates.length), -1);
    }

    private static void way() {
        CountGates x = new CountGates();
        x.gate(0, 1, 0, 0);
        x.gate(1, 2, 0, 0);
        x.gate(2, 0, 0, 0);
        x.goer(0, 6, 0);
        rowOfGates("here", x, 0, -1);
        rowOfGates("here as so many", x, 0, 6);
        rowOfGates("next", x, 1, -1, 0);
        rowOfGates("next but one", x, 2, 4, 0, 1);
        rowOfGates("round", x, 0, 3, 0, 1, 2);
        rowOfGates("round and on", x, 1, 2, 0, 1, 2, 0);
        due("as many as can't be", x.way(0, 1, 6, -1), -1);
        due("park without a way", x.way(0, 3, -1, -1), -1);
        due("its first gate", x.way(0, 3, -1, 0), -1);
        due("i -2", x.way(0, 1, -1, -2), -1);
        x.latch(0);
        due("shut", x.way(0, 1, -1, -1), -1);
        x.latch(0);
        Checks.force(x, "bars if many = 5 and gate = 1");
        due("barred on the way", x.way(0, 2, -1, -1), -1);
    }

    private static void wayIsTheFirst() {
        CountGates x = new CountGates();
        x.gate(2, 3, 0, 0);
        x.gate(0, 2, 0, 0);
        x.gate(0, 1, 0, 0);
        x.gate(1, 3, 0, 0);
        x.gate(0, 1, 0, 0);
        x.gate(2, 3, 1, 0);
        x.goer(0, 9, 0);
        rowOfGates("the lowest first gate", x, 3, -1, 1, 0);
        Checks.force(x, "turns many - kind - 1; turns 19 if gate = 0");
        rowOfGates("as any the first", x, 3, -1, 1, 0);
        rowOfGates("as 6", x, 3, 6, 1, 5);
        rowOfGates("as 7", x, 3, 7, 2, 3);
        x.latch(1);
        rowOfGates("by others", x, 3, -1, 2, 3);
        x.latch(2);
        rowOfGates("by the other of two", x, 3, -1, 4, 3);
    }

    private static void wayRoundAbout() {
        CountGates x = new CountGates();
        x.gate(0, 0, 0, 0);
        x.gate(0, 1, 1, 0);
        x.goer(0, 0, 0);
        Checks.force(x, "turns many + 1; bars if gate = 1 and many < 19");
        due("as 19 at last", x.way(0, 1, -1, -1), 20);
        due("the gate ahead", x.way(0, 1, -1, 18), 0);
        due("the last gate", x.way(0, 1, -1, 19), 1);
        due("manys", x.manys(0, 0), (1 << 20) - 1);
        due("manys behind", x.manys(0, 1), 1 << 19);
    }

    private static void cheap() {
        CountGates x = new CountGates();
        x.gate(0, 2, 7, 0);
        x.gate(0, 1, 2, 0);
        x.gate(1, 2, 3, 0);
        x.gate(2, 0, 0, 0);
        x.goer(0, 9, 0);
        due("without a law", x.cheap(0, 2, 7), 2);
        Checks.force(x, "pays kind + arm");
        due("two cheap gates", x.cheap(0, 2, -1), 5);
        due("one dear gate", x.cheap(0, 2, 8), 7);
        due("here", x.cheap(0, 0, 9), 0);
        due("here as any", x.cheap(0, 0, -1), 0);
        x.set(1, 9);
        due("now the dear one", x.cheap(0, 2, -1), 7);
        due("round by the dear one", x.cheap(0, 0, 7), 7);
        due("round by the others, 9 at the most", x.cheap(0, 0, 6), 12);
        due("can't come", x.cheap(0, 3, -1), -1);
        due("can't come so", x.cheap(0, 2, 9), -1);
        CountGates y = new CountGates();
        y.gate(0, 1, 4, 0);
        y.gate(0, 0, 0, 0);
        y.goer(0, 3, 0);
        Checks.force(y, "pays many if gate = 0; pays 0 if gate = 1; turns many if gate = 0");
        due("cheaper by going round for nothing", y.cheap(0, 1, -1), 0);
        due("as 2", y.cheap(0, 1, 2), 2);
    }

    /** Each park as each many, the last one the dearest of all. */
    private static void allPlaces() {
        CountGates x = new CountGates();
        for (int park = 0; park < 6; park++) {
            x.gate(0, park, 0, 0);
        }
        x.goer(0, 0, 0);
        Checks.force(x, "turns many; turns [many + 1] % 20 if gate = 0; pays gate + 1; pays 9 if gate = 5");
        due("reach", x.reach(0), 63);
        for (int park = 0; park < 6; park++) {
            due("manys " + park, x.manys(0, park), (1 << 20) - 1);
        }
        due("the dearest", x.cheap(0, 5, 19), 28);
        due("the longest", x.way(0, 5, 19, -1), 20);
    }

    private static void manysAndReach() {
        CountGates x = new CountGates();
        x.gate(0, 1, 0, 0);
        x.gate(1, 0, 0, 0);
        x.gate(5, 0, 0, 0);
        x.gate(1, 5, 0, 0);
        x.goer(0, 4, 0);
        due("manys here", x.manys(0, 0), 1 << 4 | 1 << 2 | 1 << 1 | 1);
        due("manys there", x.manys(0, 1), 1 << 3 | 1 << 1 | 1);
        due("manys nowhere", x.manys(0, 2), 0);
        due("reach", x.reach(0), 1 | 2 | 32);
        x.latch(3);
        due("reach less", x.reach(0), 3);
        x.latch(0);
        due("reach here", x.reach(0), 1);
        due("no goer", x.reach(1), -1);
    }

    private static void ways() {
        CountGates x = new CountGates();
        for (int i = 0; i < 10; i++) {
            x.gate(0, 0, 0, 0);
        }
        x.goer(0, 19, 0);
        due("none", x.ways(0, 0, 19, 0), 1);
        due("none as other", x.ways(0, 0, 18, 0), 0);
        due("one", x.ways(0, 0, -1, 1), 10);
        due("twelve", x.ways(0, 0, -1, 12), 1_000_000_000_000L);
        due("twelve as 7", x.ways(0, 0, 7, 12), 1_000_000_000_000L);
        due("twelve as 6", x.ways(0, 0, 6, 12), 0);
        due("elsewhere", x.ways(0, 1, -1, 5), 0);
        due("thirteen", x.ways(0, 0, -1, 13), -1);
        due("-1", x.ways(0, 0, -1, -1), -1);
        Checks.force(x, "bars if gate > 2 and many < 18");
        due("fewer later", x.ways(0, 0, -1, 4), 10 * 10 * 3 * 3);
        CountGates y = new CountGates();
        y.gate(0, 1, 0, 0);
        y.goer(0, 2, 0);
        due("no row stays", y.ways(0, 1, -1, 2), 0);
    }

    private static void likely() {
        CountGates x = new CountGates();
        x.gate(0, 1, 0, 0);
        x.gate(0, 2, 0, 0);
        x.gate(0, 0, 0, 0);
        x.goer(0, 19, 0);
        due("a third, cut", x.likely(0, 1, -1, 1), 333_333_333_333L);
        due("a ninth comes to it", x.likely(0, 1, -1, 2), 444_444_444_444L);
        due("only as 17", x.likely(0, 1, 17, 2), 111_111_111_111L);
        due("stays as 18", x.likely(0, 1, 18, 2), 333_333_333_333L);
        due("here now", x.likely(0, 0, -1, 0), 1_000_000_000_000L);
        due("not there now", x.likely(0, 1, -1, 0), 0);
        due("thirty", x.likely(0, 0, 0, 30), 0);
        due("thirty elsewhere", x.likely(0, 1, -1, 30), likelyByHand(30));
        due("thirty-one", x.likely(0, 0, 0, 31), -1);
        due("-1", x.likely(0, 0, 0, -1), -1);
        x.latch(0);
        x.latch(1);
        x.latch(2);
        due("it stays", x.likely(0, 0, 19, 30), 1_000_000_000_000L);
    }

    /** Each step a third of what is left comes to park 1 and stays there. */
    private static long likelyByHand(int n) {
        long left = 1_000_000_000_000L;
        long there = 0;
        for (int i = 0; i < n; i++) {
            left /= 3;
            there += left;
        }
        return there;
    }

    private static void again() {
        CountGates x = new CountGates();
        x.gate(4, 1, 0, 0);
        x.gate(0, 1, 1, 0);
        x.gate(0, 1, 2, 0);
        x.goer(0, 19, 0);
        x.latch(0);
        due("down to none", x.again(0, 0, 0), 19);
        due("none for ever", x.again(0, 0, 1), 1);
        Checks.force(x, "turns many * 3 % 20; turns many if kind = 1; turns many / 2 + 3 if kind = 2; bars");
        due("19 17 11 13 19", x.again(0, 0, 0), 0);
        due("four", x.again(0, 0, 1), 4);
        due("stays", x.again(0, 1, 0), 0);
        due("after one", x.again(0, 1, 1), 1);
        due("19 12 9 7 6 6", x.again(0, 2, 0), 4);
        due("6 for ever", x.again(0, 2, 1), 1);
        due("what 2", x.again(0, 0, 2), -1);
        due("what -1", x.again(0, 0, -1), -1);
        due("no gate", x.again(0, 3, 0), -1);
        due("no goer", x.again(1, 0, 0), -1);
        CountGates y = new CountGates();
        y.gate(0, 0, 0, 0);
        y.goer(0, 0, 0);
        Checks.force(y, "turns many + 1; turns 10 if many = 19");
        due("a tail", y.again(0, 0, 0), 10);
        due("and a round", y.again(0, 0, 1), 10);
    }

    private static void fixed() {
        CountGates x = new CountGates();
        x.gate(0, 1, 0, 3);
        x.gate(1, 2, 0, 5);
        x.goer(0, 2, 0);
        Checks.force(x, "turns many + arm; bars if arm > 7 and gate = 1");
        due("there is a way", x.fixed(0, 2, 10), 100);
        due("here", x.fixed(0, 0, 2), 100);
        due("by the first gate", x.fixed(0, 2, 8), 1);
        due("by gate 0, as low as can be", x.fixed(0, 2, 16), 9);
        due("by gate 1", x.fixed(0, 2, 6), 11);
        due("by none", x.fixed(0, 2, 4), -1);
        due("no such row", x.fixed(0, 3, -1), -1);
        x.latch(1);
        due("shut", x.fixed(0, 2, 10), -1);
        x.latch(1);
        x.set(1, 8);
        due("barred by its arm", x.fixed(0, 2, -1), 10);
        due("arms stay", x.at(1, 3) * 10 + x.at(0, 3), 83);
        CountGates y = new CountGates();
        y.gate(0, 1, 0, 0);
        y.goer(0, 2, 0);
        Checks.force(y, "bars if arm = 0");
        due("not the arm that is", y.fixed(0, 1, 1), 1);
        CountGates z = new CountGates();
        z.gate(0, 1, 0, 4);
        z.goer(0, 0, 0);
        Checks.force(z, "turns arm * 2");
        due("as one who is none", z.fixed(0, 1, 14), 7);
        Checks.force(z, "bars if arm < 10");
        due("no arm beyond 9", z.fixed(0, 1, -1), -1);
    }

    private static void cut() {
        CountGates x = new CountGates();
        x.gate(0, 1, 0, 0);
        x.gate(0, 2, 0, 0);
        x.gate(1, 3, 0, 0);
        x.gate(2, 3, 0, 0);
        x.gate(3, 4, 0, 0);
        x.gate(0, 0, 0, 0);
        x.goer(0, 9, 0);
        due("two", x.cut(0, 3, 0), 2);
        due("the lowest two", x.cut(0, 3, 1), 3);
        due("one", x.cut(0, 4, 0), 1);
        due("the one", x.cut(0, 4, 1), 16);
        due("it is there", x.cut(0, 0, 0), -1);
        due("it is there: bits", x.cut(0, 0, 1), -1);
        due("can't come anyhow", x.cut(0, 5, 0), 0);
        due("no gates", x.cut(0, 5, 1), 0);
        due("what 2", x.cut(0, 3, 2), -1);
        x.latch(0);
        due("a shut gate counts not", x.cut(0, 3, 1), 2);
        x.latch(0);
        Checks.force(x, "bars if gate = 2");
        due("a barred one neither", x.cut(0, 3, 1), 2);
        due("gates stay open", x.at(0, 4) + x.at(1, 4) + x.at(2, 4) + x.at(3, 4), 4);
    }

    private static void cutLowest() {
        CountGates x = new CountGates();
        x.gate(1, 2, 0, 0);
        x.gate(3, 2, 0, 0);
        for (int i = 0; i < 4; i++) {
            x.gate(0, 1, 0, 0);
            x.gate(0, 3, 0, 0);
        }
        x.goer(0, 9, 0);
        due("two behind", x.cut(0, 2, 1), 3);
        due("four", x.cut(0, 1, 0), 4);
        due("these four", x.cut(0, 1, 1), 4 | 16 | 64 | 256);
        CountGates y = new CountGates();
        for (int i = 0; i < 10; i++) {
            y.gate(0, 1, 0, 0);
        }
        y.goer(0, 9, 0);
        due("all ten", y.cut(0, 1, 1), 1023);
        CountGates z = new CountGates();
        z.gate(0, 0, 0, 0);
        z.gate(0, 1, 0, 0);
        z.goer(0, 5, 0);
        Checks.force(z, "bars if gate = 1 and many > 3");
        due("the gate that makes one few enough", z.cut(0, 1, 1), 1);
    }

    private static void meet() {
        CountGates x = new CountGates();
        x.gate(0, 2, 0, 0);
        x.gate(1, 2, 0, 0);
        x.gate(2, 1, 0, 0);
        x.goer(0, 9, 0);
        x.goer(1, 9, 0);
        x.goer(1, 8, 0);
        x.goer(3, 9, 0);
        x.goer(1, 9, 0);
        due("behind one gate each", x.meet(0, 1, 0), 48);
        due("one long", x.meet(0, 1, 1), 1);
        due("the other about", x.meet(1, 0, 0), 48);
        due("as none at last", x.meet(1, 2, 0), 40);
        due("after so many", x.meet(1, 2, 1), 9);
        due("they can't", x.meet(0, 3, 0), -1);
        due("they can't: how long", x.meet(0, 3, 1), -1);
        due("at once", x.meet(1, 4, 0), 29);
        due("none long", x.meet(1, 4, 1), 0);
        due("one alone", x.meet(1, 1, 0), -1);
        due("one alone: how long", x.meet(1, 1, 1), -1);
        due("no other", x.meet(1, 5, 0), -1);
        due("no one", x.meet(-1, 1, 0), -1);
        due("what 2", x.meet(0, 1, 2), -1);
        due("what -1", x.meet(0, 1, -1), -1);
    }

    private static void compare() {
        CountGates x = new CountGates();
        x.gate(0, 0, 0, 0);
        x.gate(0, 1, 1, 0);
        x.goer(0, 9, 0);
        Checks.law(x, "turns many / 2");
        Checks.law(x, "bars if kind = 1");
        due("as 3 without a law", x.compare(-1, 0, 1, 3), 6);
        due("as 2 by law 0", x.compare(0, 0, 1, 2), 2);
        due("as 3 by law 0", x.compare(0, 0, 1, 3), -1);
        due("by law 1", x.compare(1, 0, 1, -1), -1);
        x.force(1);
        due("law 0 in place of 1", x.compare(0, 0, 1, -1), 1);
        due("none in place of 1", x.compare(-1, 0, 1, -1), 1);
        due("the law in force", x.compare(1, 0, 1, -1), -1);
        due("here", x.compare(1, 0, 0, 9), 0);
        due("force stays", x.count(12), 1);
        due("law 2", x.compare(2, 0, 1, -1), -1);
        due("law -2", x.compare(-2, 0, 1, -1), -1);
    }

    private static void wrongNumbers() {
        CountGates x = new CountGates();
        x.gate(0, 0, 0, 0);
        x.goer(0, 9, 0);
        Checks.law(x, "bars");
        int[][] bad = {{-1, 0, 0}, {1, 0, 0}, {0, -1, 0}, {0, 6, 0}, {0, 0, -2}, {0, 0, 20},
            {Integer.MAX_VALUE, 0, 0}, {0, Integer.MIN_VALUE, 0}, {0, 0, Integer.MAX_VALUE}};
        for (int[] b : bad) {
            due("way", x.way(b[0], b[1], b[2], -1), -1);
            due("cheap", x.cheap(b[0], b[1], b[2]), -1);
            due("ways", x.ways(b[0], b[1], b[2], 0), -1);
            due("likely", x.likely(b[0], b[1], b[2], 0), -1);
            due("fixed", x.fixed(b[0], b[1], b[2]), -1);
            due("compare", x.compare(0, b[0], b[1], b[2]), -1);
        }
        due("manys goer", x.manys(1, 0), -1);
        due("manys park", x.manys(0, 6), -1);
        due("manys park -1", x.manys(0, -1), -1);
        due("cut goer", x.cut(1, 1, 0), -1);
        due("cut park", x.cut(0, 6, 0), -1);
        due("cut what", x.cut(0, 1, -1), -1);
        due("reach -1", x.reach(-1), -1);
        due("none refused", x.count(7) + x.count(8) + x.count(9), 0);
    }

    private static void onPaper() {
        CountGates x = new CountGates();
        x.gate(0, 1, 0, 0);
        x.gate(1, 2, 0, 0);
        x.goer(0, 9, 0);
        x.terms(0, 5);
        Checks.force(x, "bars if day > 5");
        due("the day stays as now", x.way(0, 2, -1, -1), 2);
        x.cheap(0, 2, -1);
        x.ways(0, 2, -1, 2);
        x.likely(0, 2, -1, 2);
        x.fixed(0, 2, 18);
        x.cut(0, 2, 1);
        due("park", x.of(0, 0), 0);
        due("many", x.of(0, 1), 9);
        due("paid", x.of(0, 3), 0);
        x.pass();
        due("barred the day after", x.way(0, 2, -1, -1), -1);
    }
}
