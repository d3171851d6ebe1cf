/** Promises 1 to 7 and 40 to 43: gates, goers, terms, what the law tells of them, images, counts. */
public final class ParksTest {
    private static final Checks CHECKS = new Checks("ParksTest");

    public static void main(String[] args) {
        newObject();
        gate();
        at();
        goer();
        of();
        asksWithoutLaw();
        asksByLaw();
        asksWords();
        terms();
        imageAndBack();
        imageKeepsLaws();
        imageKeepsSeen();
        imageKeepsNot();
        countAndStatus();
        statusOfEach();
        CHECKS.finish();
    }

    private static void due(String call, long got, long want) {
        CHECKS.due(call, got, want);
    }

    private static void newObject() {
        CountGates x = new CountGates();
        due("NONE", CountGates.NONE, -1);
        for (int what = 0; what <= 15; what++) {
            due("new count " + what, x.count(what), what == 12 ? -1 : what == 14 ? 1 : 0);
        }
        due("new status", x.status(), 0);
        due("new fault", x.fault(), -1);
        due("new stopped", x.stopped(), -1);
        due("new rust", x.rust(), 0);
        due("new drawn", x.drawn(0, 0), -1);
        due("new at", x.at(0, 0), -1);
        due("new of", x.of(0, 0), -1);
        due("new kinds", x.kinds(), 255);
        due("new back", x.back(0), -2);
    }

    private static void gate() {
        CountGates x = new CountGates();
        int[][] bad = {{-1, 0, 0, 0}, {6, 0, 0, 0}, {0, -1, 0, 0}, {0, 6, 0, 0}, {0, 0, -1, 0}, {0, 0, 8, 0}, {0, 0, 0, -1}, {0, 0, 0, 10},
            {Integer.MIN_VALUE, 0, 0, 0}, {0, Integer.MAX_VALUE, 0, 0}};
        for (int[] b : bad) {
            due("bad gate", x.gate(b[0], b[1], b[2], b[3]), -1);
        }
        due("no gates", x.count(0), 0);
        due("gate of the most", x.gate(5, 5, 7, 9), 0);
        for (int i = 1; i < 10; i++) {
            due("gate " + i, x.gate(0, 0, 0, 0), i);
        }
        due("11th gate", x.gate(0, 0, 0, 0), -5);
        due("bad 11th gate", x.gate(6, 0, 0, 0), -1);
        due("ten gates", x.count(0), 10);
        due("refused by -1", x.count(7), 11);
        due("refused by -5", x.count(10), 1);
    }

    private static void at() {
        CountGates x = new CountGates();
        x.gate(1, 2, 3, 4);
        x.gate(5, 0, 7, 9);
        int[][] want = {{1, 2, 3, 4, 1}, {5, 0, 7, 9, 1}};
        for (int gate = 0; gate < 2; gate++) {
            for (int what = 0; what < 5; what++) {
                due("at " + gate + " " + what, x.at(gate, what), want[gate][what]);
            }
        }
        x.latch(1);
        due("at shut", x.at(1, 4), 0);
        due("at what 5", x.at(0, 5), -1);
        due("at what -1", x.at(0, -1), -1);
        due("at gate 2", x.at(2, 0), -1);
        due("at gate -1", x.at(-1, 0), -1);
        due("at is not refused", x.status(), 0);
    }

    private static void goer() {
        CountGates x = new CountGates();
        int[][] bad = {{-1, 0, 0}, {6, 0, 0}, {0, -1, 0}, {0, 20, 0}, {0, 0, -1}, {0, 0, 4}, {0, Integer.MIN_VALUE, 0}};
        for (int[] b : bad) {
            due("bad goer", x.goer(b[0], b[1], b[2]), -1);
        }
        due("goer of the most", x.goer(5, 19, 3), 0);
        for (int i = 1; i < 5; i++) {
            due("goer " + i, x.goer(0, 0, 0), i);
        }
        due("6th goer", x.goer(0, 0, 0), -5);
        due("bad 6th goer", x.goer(0, 20, 0), -1);
        due("five goers", x.count(1), 5);
    }

    private static void of() {
        CountGates x = new CountGates();
        x.gate(2, 3, 0, 0);
        x.gate(2, 4, 1, 0);
        x.gate(2, 2, 2, 0);
        x.gate(1, 2, 0, 0);
        x.goer(2, 7, 3);
        due("of park", x.of(0, 0), 2);
        due("of many", x.of(0, 1), 7);
        due("of hurry", x.of(0, 2), 3);
        due("of paid", x.of(0, 3), 0);
        due("of can", x.of(0, 4), 7);
        x.latch(0);
        due("of can, one shut", x.of(0, 4), 6);
        Checks.force(x, "bars if kind = 1 and many = 7");
        due("of can, one barred", x.of(0, 4), 4);
        due("of what 5", x.of(0, 5), -1);
        due("of what -1", x.of(0, -1), -1);
        due("of goer 1", x.of(1, 0), -1);
        due("of goer -1", x.of(-1, 4), -1);
    }

    private static void asksWithoutLaw() {
        CountGates x = new CountGates();
        x.gate(0, 1, 0, 0);
        x.goer(3, 0, 0);
        x.latch(0);
        due("asks 0", x.asks(0, 0, 0, 0), 0);
        due("asks 1", x.asks(0, 0, 1, 0), 0);
        due("asks 19", x.asks(0, 0, 19, 0), 18);
        due("asks pays", x.asks(0, 0, 19, 1), 1);
        due("asks barred", x.asks(0, 0, 19, 2), 0);
        due("asks what 3", x.asks(0, 0, 0, 3), -1);
        due("asks what -1", x.asks(0, 0, 0, -1), -1);
        due("asks many -1", x.asks(0, 0, -1, 0), -1);
        due("asks many 20", x.asks(0, 0, 20, 0), -1);
        due("asks gate 1", x.asks(0, 1, 0, 0), -1);
        due("asks goer 1", x.asks(1, 0, 0, 0), -1);
        due("asks goer -1", x.asks(-1, 0, 0, 0), -1);
    }

    /** What a law tells of one who is 5 at a gate of kind 2, arm 3, in hurry 1, gate 1, goer 1, day 40, mood 6. */
    private static int told(String law, int what) {
        CountGates x = new CountGates();
        x.gate(0, 0, 0, 0);
        x.gate(0, 1, 2, 3);
        x.goer(0, 0, 0);
        x.goer(4, 9, 1);
        x.terms(0, 40);
        x.terms(2, 6);
        Checks.force(x, law);
        return x.asks(1, 1, 5, what);
    }

    private static void asksByLaw() {
        due("nearest above", told("turns 20", 0), 19);
        due("the most", told("turns 19", 0), 19);
        due("nearest below", told("turns 0 - 1", 0), 0);
        due("last turns", told("turns 3;turns 4", 0), 4);
        due("last turns that holds", told("turns 3;turns 4 if many = 6", 0), 3);
        due("no turns holds", told("turns 4 if many = 6", 0), 4);
        due("no turns holds, others do", told("turns 9 if many = 6;pays 9;bars", 0), 4);
        due("broken sum holds not", told("turns 3;turns 4 / 0", 0), 3);
        due("broken rest holds not", told("turns 3;turns 4 % 0", 0), 3);
        due("broken test holds not", told("turns 3;turns 7 if 1 / 0 = 0", 0), 3);
        due("broken negated test holds not", told("turns 3;turns 7 if not 1 / 0 = 0", 0), 3);
        due("pays above", told("pays 10", 1), 9);
        due("pays below", told("pays 1 - 2", 1), 0);
        due("pays last", told("pays 2;pays 3", 1), 3);
        due("pays without", told("turns 3", 1), 1);
        due("pays, none holds", told("pays 5 if 1 > 2", 1), 1);
        due("bars always", told("bars", 2), 1);
        due("bars if so", told("bars if many > 4;bars if 1 = 2", 2), 1);
        due("bars if not so", told("bars if many > 5", 2), 0);
        due("bars if broken", told("bars if many / 0 < 5", 2), 0);
        due("barred comes out nonetheless", told("bars;turns 8", 0), 8);
    }

    private static void asksWords() {
        due("kind", told("turns kind", 0), 2);
        due("arm", told("turns arm", 0), 3);
        due("many", told("turns many", 0), 5);
        due("hurry", told("turns hurry + 10", 0), 11);
        due("gate", told("turns gate + 10", 0), 11);
        due("goer", told("turns goer + 11", 0), 12);
        due("day", told("turns day - 30", 0), 10);
        due("mood", told("turns mood", 0), 6);
    }

    private static void terms() {
        CountGates x = new CountGates();
        due("day was", x.terms(0, 999), 0);
        due("bites were", x.terms(1, 10), 1);
        due("mood was", x.terms(2, 9), 0);
        due("day again", x.terms(0, 0), 999);
        due("bites again", x.terms(1, 0), 10);
        due("mood again", x.terms(2, 0), 9);
        int[][] bad = {{0, 1000}, {0, -1}, {1, 11}, {1, -1}, {2, 10}, {2, -1}, {3, 0}, {-1, 0}};
        for (int[] b : bad) {
            due("bad terms", x.terms(b[0], b[1]), -1);
        }
        due("day stays", x.count(13), 0);
        due("bites stay", x.count(14), 0);
        due("mood stays", x.count(15), 0);
    }

    private static void imageAndBack() {
        CountGates x = new CountGates();
        x.gate(0, 1, 2, 3);
        x.goer(0, 5, 1);
        x.seen(1, 2, 3);
        x.terms(2, 4);
        due("image", x.image(1), 0);
        x.gate(1, 0, 0, 0);
        x.goer(2, 2, 2);
        x.seen(4, 5, 6);
        x.terms(1, 7);
        x.go(0, 0);
        x.set(0, 9);
        x.latch(0);
        x.pass();
        due("image -1", x.image(-1), -1);
        due("image 2", x.image(2), -1);
        due("back 2", x.back(2), -1);
        due("back -1", x.back(-1), -1);
        due("back 0", x.back(0), -2);
        due("still four to undo", x.count(5), 4);
        due("back 1", x.back(1), 0);
        due("gates", x.count(0), 1);
        due("goers", x.count(1), 1);
        due("seen", x.count(3), 1);
        due("nothing to undo", x.count(5), 0);
        due("undo", x.undo(), -3);
        due("day", x.count(13), 0);
        due("bites", x.count(14), 1);
        due("mood", x.count(15), 4);
        due("arm", x.at(0, 3), 3);
        due("open", x.at(0, 4), 1);
        due("park", x.of(0, 0), 0);
        due("many", x.of(0, 1), 5);
        due("paid", x.of(0, 3), 0);
        x.go(0, 0);
        due("back again", x.back(1), 0);
        due("many again", x.of(0, 1), 5);
    }

    private static void imageKeepsLaws() {
        CountGates x = new CountGates();
        x.gate(0, 0, 0, 0);
        x.goer(0, 5, 0);
        x.image(0);
        Checks.force(x, "turns 11");
        x.image(1);
        x.back(0);
        due("no law", x.count(4), 0);
        due("none in force", x.count(12), -1);
        due("another law 0", Checks.law(x, "turns 12"), 0);
        x.force(0);
        due("by the other", x.asks(0, 0, 5, 0), 12);
        x.back(1);
        due("one law", x.count(4), 1);
        due("in force", x.count(12), 0);
        due("by the first", x.asks(0, 0, 5, 0), 11);
    }

    private static void imageKeepsSeen() {
        CountGates x = new CountGates();
        Checks.force(x, "turns arm + many * 2 + kind");
        x.seen(3, 4, 14);
        x.image(0);
        x.forget();
        x.seen(1, 1, 4);
        due("by the later", x.kinds(), 2);
        x.back(0);
        due("by the first", x.kinds(), 8);
    }

    private static void imageKeepsNot() {
        CountGates x = new CountGates();
        x.gate(0, 0, 0, 0);
        x.goer(0, 5, 0);
        x.image(0);
        x.goer(0, 9, 0);
        x.days(0, 10);
        Checks.write(x, new byte[] {9});
        x.row();
        Checks.law(x, "turns");
        Checks.orders(x, "pass;go 9 by 0");
        x.undo();
        Checks.write(x, "abc");
        x.back(0);
        due("tape", x.count(6), 3);
        due("fault is the latest's", x.fault(), -1);
        due("stopped", x.stopped(), 1);
        due("rust", x.rust(), 1);
        due("drawn of one gone since", x.drawn(1, 0), 0);
        due("refused by -3", x.count(9), 2);
        due("refused by -6", x.count(11), 1);
        Checks.write(x, ";");
        x.law();
        x.back(0);
        due("fault", x.fault(), 0);
    }

    private static void countAndStatus() {
        CountGates x = new CountGates();
        x.gate(0, 0, 0, 0);
        x.goer(0, 5, 0);
        x.goer(1, 9, 0);
        x.seen(0, 0, 0);
        Checks.law(x, "bars if many = 0");
        x.force(0);
        x.go(0, 0);
        x.latch(0);
        x.latch(0);
        x.feed(0, 0, 0, 0, 0);
        x.terms(5, 5);
        x.force(3);
        x.force(-2);
        x.go(0, 5);
        int[] want = {1, 2, 13, 1, 1, 3, 20, 1, 3, 0, 0, 0, 0, 0, 1, 0};
        for (int what = 0; what < want.length; what++) {
            due("count " + what, x.count(what), want[what]);
        }
        due("count 16", x.count(16), -1);
        due("count -1", x.count(-1), -1);
        due("count of the least", x.count(Integer.MIN_VALUE), -1);
        due("queries are not refused", x.count(7), 1);
        due("status", x.status(), -2);
        x.at(9, 9);
        x.end(-1);
        x.way(9, 9, 9, 9);
        x.forget();
        due("status stays", x.status(), -2);
        x.latch(0);
        due("status 0", x.status(), 0);
    }

    private static void statusOfEach() {
        CountGates x = new CountGates();
        x.gate(9, 0, 0, 0);
        due("status gate", x.status(), -1);
        x.force(-1);
        due("status force", x.status(), 0);
        x.goer(9, 0, 0);
        due("status goer", x.status(), -1);
        x.image(0);
        due("status image", x.status(), 0);
        x.row();
        due("status row", x.status(), -6);
        x.pass();
        due("status pass", x.status(), 0);
        x.law();
        due("status law", x.status(), -6);
        x.undo();
        due("status undo", x.status(), 0);
        x.orders();
        due("status orders", x.status(), -6);
        x.back(0);
        due("status back", x.status(), 0);
        x.go(0, 0);
        due("status go", x.status(), -2);
        x.seen(0, 0, 0);
        due("status seen", x.status(), 0);
        x.latch(0);
        due("status latch", x.status(), -2);
        x.terms(0, 999);
        due("status terms", x.status(), 0);
        x.set(0, 10);
        due("status set", x.status(), -1);
        x.set(0, 9);
        due("status set of none", x.status(), -2);
        x.pass();
        due("status pass at the last day", x.status(), -3);
        x.days(0, 61);
        due("status days", x.status(), -1);
        x.undo();
        due("status undo of none", x.status(), -3);
        x.back(1);
        due("status back to none", x.status(), -2);
        x.image(7);
        due("status image 7", x.status(), -1);
        x.seen(0, 0, 99);
        due("status seen 99", x.status(), -1);
        x.gate(0, 0, 0, 0);
        x.goer(0, 0, 0);
        due("status goer again", x.status(), 0);
        x.days(0, 60);
        due("status days again", x.status(), 0);
    }
}
