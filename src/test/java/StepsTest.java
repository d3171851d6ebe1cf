/** Promises 17 to 21: going, latching, setting, passing and undoing. */
public final class StepsTest {
    private static final Checks CHECKS = new Checks("StepsTest");

    public static void main(String[] args) {
        go();
        goAsksAhead();
        paidAtMost();
        latch();
        set();
        pass();
        undo();
        undoKeepsSixteen();
        undoEndsAtNews();
        undoGoesOn();
        CHECKS.finish();
    }

    private static void due(String call, long got, long want) {
        CHECKS.due(call, got, want);
    }

    private static void go() {
        CountGates x = new CountGates();
        x.gate(0, 3, 0, 0);
        x.gate(3, 3, 1, 0);
        x.goer(0, 2, 0);
        due("through another park's", x.go(0, 1), -3);
        due("through", x.go(0, 0), 1);
        due("park", x.of(0, 0), 3);
        due("paid", x.of(0, 3), 1);
        due("to the same park", x.go(0, 1), 0);
        due("as none", x.go(0, 1), 0);
        due("paid thrice", x.of(0, 3), 3);
        due("no such gate", x.go(0, 2), -2);
        due("gate -1", x.go(0, -1), -2);
        due("no such goer", x.go(1, 0), -2);
        due("goer -1", x.go(-1, 0), -2);
        x.latch(1);
        due("shut", x.go(0, 1), -3);
        x.latch(1);
        Checks.force(x, "bars if many = 0 and kind = 1");
        due("barred", x.go(0, 1), -3);
        due("paid still", x.of(0, 3), 3);
    }

    private static void goAsksAhead() {
        CountGates x = new CountGates();
        x.gate(0, 1, 0, 0);
        x.goer(0, 4, 0);
        Checks.force(x, "turns many + 3; pays many; bars if many > 4");
        due("comes out", x.go(0, 0), 7);
        due("pays as it was ahead", x.of(0, 3), 4);
    }

    private static void paidAtMost() {
        CountGates x = new CountGates();
        x.gate(0, 0, 0, 0);
        x.goer(0, 4, 0);
        Checks.force(x, "turns 4;pays 9");
        for (int i = 0; i < 56; i++) {
            Checks.orders(x, i < 55 ? "go 0 by 0 times 20" : "go 0 by 0 times 10");
        }
        due("nearly the most", x.of(0, 3), 9990);
        x.go(0, 0);
        due("the most", x.of(0, 3), 9999);
        x.go(0, 0);
        due("no more", x.of(0, 3), 9999);
        x.undo();
        x.undo();
        due("undone", x.of(0, 3), 9990);
    }

    private static void latch() {
        CountGates x = new CountGates();
        x.gate(0, 0, 0, 0);
        due("shut", x.latch(0), 0);
        due("open", x.latch(0), 1);
        due("none", x.latch(1), -2);
        due("gate -1", x.latch(-1), -2);
        due("is open", x.at(0, 4), 1);
    }

    private static void set() {
        CountGates x = new CountGates();
        x.gate(0, 0, 0, 4);
        due("arm", x.set(0, 9), 4);
        due("arm 0", x.set(0, 0), 9);
        due("so already", x.set(0, 0), -3);
        due("arm 10", x.set(0, 10), -1);
        due("arm -1", x.set(0, -1), -1);
        due("no gate", x.set(1, 0), -2);
        due("no gate, no arm", x.set(1, 10), -1);
        due("is", x.at(0, 3), 0);
    }

    private static void pass() {
        CountGates x = new CountGates();
        due("a day", x.pass(), 1);
        x.terms(0, 998);
        due("the last", x.pass(), 999);
        due("no more", x.pass(), -3);
        due("stays", x.count(13), 999);
    }

    private static void undo() {
        CountGates x = new CountGates();
        x.gate(0, 1, 0, 4);
        x.goer(0, 5, 0);
        due("nothing", x.undo(), -3);
        x.go(0, 0);
        x.latch(0);
        x.set(0, 7);
        x.pass();
        x.go(0, 0);
        x.set(0, 7);
        due("four, none of the refused", x.count(5), 4);
        due("pass", x.undo(), 3);
        due("day", x.count(13), 0);
        due("set", x.undo(), 2);
        due("arm", x.at(0, 3), 4);
        due("latch", x.undo(), 1);
        due("open", x.at(0, 4), 1);
        due("go", x.undo(), 0);
        due("park", x.of(0, 0), 0);
        due("many", x.of(0, 1), 5);
        due("paid", x.of(0, 3), 0);
        due("nothing more", x.undo(), -3);
    }

    private static void undoKeepsSixteen() {
        CountGates x = new CountGates();
        x.gate(0, 0, 0, 0);
        x.latch(0);
        for (int i = 0; i < 16; i++) {
            x.pass();
        }
        due("sixteen", x.count(5), 16);
        for (int i = 0; i < 16; i++) {
            due("undo " + i, x.undo(), 3);
        }
        due("the first is not kept", x.undo(), -3);
        due("shut still", x.at(0, 4), 0);
        due("day", x.count(13), 0);
    }

    private static void undoEndsAtNews() {
        CountGates x = new CountGates();
        x.gate(0, 0, 0, 0);
        x.pass();
        x.gate(9, 0, 0, 0);
        x.goer(9, 0, 0);
        x.terms(9, 0);
        x.row();
        due("refused news change nothing", x.count(5), 1);
        x.gate(0, 0, 0, 0);
        due("gate", x.count(5), 0);
        x.pass();
        x.goer(0, 0, 0);
        due("goer", x.count(5), 0);
        x.pass();
        x.terms(2, 0);
        due("terms", x.count(5), 0);
        x.pass();
        Checks.write(x, new byte[] {99});
        x.row();
        due("row", x.undo(), -3);
        due("day", x.count(13), 4);
    }

    private static void undoGoesOn() {
        CountGates x = new CountGates();
        x.gate(0, 0, 0, 0);
        x.goer(0, 9, 0);
        x.go(0, 0);
        Checks.force(x, "turns 15");
        x.seen(0, 0, 0);
        x.forget();
        x.image(0);
        x.days(3, 9);
        due("undo by another law", x.undo(), 0);
        due("many", x.of(0, 1), 9);
        due("law stays", x.count(12), 0);
        x.go(0, 0);
        x.back(1);
        due("refused back", x.count(5), 1);
        x.back(0);
        due("back", x.count(5), 0);
    }
}
