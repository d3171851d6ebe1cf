import java.util.function.ToIntFunction;

/** Promises 1 to 43: each of their sentences that names an edge, told in the document's words. */
public final class PromiseEdgesTest {
    private static final Checks CHECKS = new Checks("PromiseEdgesTest");
    /** What no call has as its last number, whatever that tells. */
    private static final int[] NO_WHAT = {Integer.MIN_VALUE, -2, -1, 16, Integer.MAX_VALUE};

    public static void main(String[] args) {
        newObject();
        gateAndGoer();
        at();
        of();
        asks();
        terms();
        feed();
        end();
        row();
        rust();
        law();
        orders();
        fault();
        stopped();
        force();
        go();
        latchSetPass();
        undo();
        undoEnds();
        way();
        cheapManysReach();
        waysAndLikely();
        again();
        fixedAndCut();
        meet();
        seenAndForget();
        ask();
        few();
        compare();
        days();
        drawn();
        imageAndBack();
        countEach();
        countsOfRefusals();
        status();
        statusOfEach();
        queriesChangeNothing();
        refusedCallsChangeNothing();
        CHECKS.finish();
    }

    private static void sentence(String words) {
        CHECKS.sentence(words);
    }

    private static void due(String call, long got, long want) {
        CHECKS.due(call, got, want);
    }

    /** Two gates, from park 0 to park 1 and back, and one goer in park 0 who is 5. */
    private static CountGates two() {
        CountGates x = new CountGates();
        x.gate(0, 1, 2, 3);
        x.gate(1, 0, 4, 5);
        x.goer(0, 5, 1);
        return x;
    }

    /** As full as can be, with steps to undo. */
    private static CountGates full() {
        CountGates x = new CountGates();
        for (int i = 0; i < 10; i++) {
            x.gate(i % 6, (i + 1) % 6, i % 8, i);
        }
        for (int i = 0; i < 5; i++) {
            x.goer(i, 15 + i, i % 4);
        }
        for (int i = 0; i < 6; i++) {
            x.seen(i, 9, 8);
            Checks.law(x, "pays " + i);
        }
        x.force(3);
        x.go(0, 0);
        x.latch(1);
        x.set(2, 9);
        x.pass();
        x.days(77, 20);
        return x;
    }

    private static void newObject() {
        sentence("`CountGates()`: Parks without gates.");
        CountGates x = new CountGates();
        for (int what = 0; what < 16; what++) {
            due("count " + what, x.count(what), what == 12 ? -1 : what == 14 ? 1 : 0);
        }
        due("no gate", x.at(0, 0), -1);
        due("no goer", x.of(0, 0), -1);
        due("no law", x.force(0), -2);
        due("no image", x.back(0), -2);
        due("no step", x.undo(), -3);
        due("none to refuse the first step that can be", x.pass(), 1);
    }

    private static void gateAndGoer() {
        sentence("A GATE: its number. -1; -5.");
        CountGates x = new CountGates();
        due("-1", x.gate(0, 0, 0, -1), -1);
        due("the first", x.gate(0, 0, 0, 0), 0);
        for (int i = 1; i < 10; i++) {
            due("its number", x.gate(5, 5, 7, 9), i);
        }
        due("-5", x.gate(0, 0, 0, 0), -5);
        sentence("A GOER: the number. -1; -5.");
        due("-1", x.goer(0, -1, 0), -1);
        for (int i = 0; i < 5; i++) {
            due("the number", x.goer(5, 19, 3), i);
        }
        due("-5", x.goer(0, 0, 0), -5);
    }

    private static void at() {
        sentence("Of a GATE FROM (what 0), TO (1), KIND (2), ARM (3), whether OPEN (4: 1, 0). NONE.");
        CountGates x = two();
        int[] want = {1, 0, 4, 5, 1};
        for (int what = 0; what < 5; what++) {
            due("what " + what, x.at(1, what), want[what]);
        }
        x.latch(1);
        due("shut", x.at(1, 4), 0);
        due("what 5", x.at(1, 5), -1);
        for (int what : NO_WHAT) {
            due("what " + what, x.at(1, what), -1);
        }
        due("the first that is not", x.at(2, 4), -1);
        due("gate -1", x.at(-1, 4), -1);
    }

    private static void of() {
        sentence("Of a GOER the PARK (what 0), MANY (1), HURRY (2), PAID (3), through which GATES it CAN go, as bits (4). NONE.");
        CountGates x = two();
        x.go(0, 0);
        int[] want = {1, 4, 1, 1, 2};
        for (int what = 0; what < 5; what++) {
            due("what " + what, x.of(0, what), want[what]);
        }
        x.latch(1);
        due("through none", x.of(0, 4), 0);
        due("what 5", x.of(0, 5), -1);
        for (int what : NO_WHAT) {
            due("what " + what, x.of(0, what), -1);
        }
        due("the first that is not", x.of(1, 4), -1);
        due("goer -1", x.of(-1, 0), -1);
    }

    private static void asks() {
        sentence("Of a GOER as MANY 0 .. 19 and a GATE as how many it would come out (what 0), what it would PAY (1), whether BARRED (2: 1, 0). NONE.");
        CountGates x = two();
        Checks.force(x, "pays many / 2; bars if many = 19");
        x.latch(1);
        due("elsewhere, shut, as 19", x.asks(0, 1, 19, 0), 18);
        due("pays as 19", x.asks(0, 1, 19, 1), 9);
        due("barred as 19", x.asks(0, 1, 19, 2), 1);
        due("as 0", x.asks(0, 1, 0, 0), 0);
        due("pays as 0", x.asks(0, 1, 0, 1), 0);
        due("not barred as 0", x.asks(0, 1, 0, 2), 0);
        due("as 20", x.asks(0, 1, 20, 2), -1);
        due("as -1", x.asks(0, 1, -1, 2), -1);
        due("gate 2", x.asks(0, 2, 0, 0), -1);
        due("goer 1", x.asks(1, 0, 0, 0), -1);
        due("what 3", x.asks(0, 0, 0, 3), -1);
        for (int what : NO_WHAT) {
            due("what " + what, x.asks(0, 0, 0, what), -1);
        }
    }

    private static void terms() {
        sentence("A TERM: what it was. -1.");
        CountGates x = new CountGates();
        due("was 0", x.terms(0, 999), 0);
        due("was 999", x.terms(0, 5), 999);
        due("-1", x.terms(0, 1000), -1);
        due("5 still", x.terms(0, 5), 5);
        for (int what : NO_WHAT) {
            due("what " + what, x.terms(what, 0), -1);
        }
    }

    private static void feed() {
        sentence("Twenty bytes come behind the TAPE, four of each number, the highest first: how many it has.");
        CountGates x = new CountGates();
        due("twenty", x.feed(0x00010203, 0x04050607, 0x05040302, 0x01000709, 0xffffffff), 20);
        due("forty", x.feed(0x80000000, 0, 0, 0, 0x00000005), 40);
        due("gates", x.row(), 8);
        due("-1 is four bytes of 255, the least one of 128", x.rust(), 2);
        due("the first byte is the highest", x.at(0, 1) * 100 + x.at(0, 2) * 10 + x.at(0, 3), 123);
        due("the third number", x.at(2, 0) * 100 + x.at(2, 1) * 10 + x.at(2, 2), 543);
        due("the lowest byte", x.at(7, 3), 5);
        CountGates z = new CountGates();
        z.feed(0x62617273, 0x20202020, 0x20202020, 0x20202020, 0x20202020);
        z.end(3);
        due("behind what is left", z.feed(0x73202020, 0x20202020, 0x20202020, 0x20202020, 0x20202020), 23);
        due("bar and s", z.law(), 0);
        sentence("NONE, if there would be more than 400.");
        CountGates y = new CountGates();
        for (int i = 0; i < 20; i++) {
            y.feed(i, i, i, i, i);
        }
        due("420", y.feed(1, 1, 1, 1, 1), -1);
        due("400 still", y.count(6), 400);
        y.end(381);
        due("401", y.feed(1, 1, 1, 1, 1), -1);
        due("381 still", y.count(6), 381);
        y.end(380);
        due("400", y.feed(1, 1, 1, 1, 1), 400);
        due("it is not refused", y.status() + y.count(7), 0);
    }

    private static void end() {
        sentence("The TAPE has its first n bytes alone: n. NONE, if it has not so many, or n is below 0.");
        CountGates x = new CountGates();
        due("0 of none", x.end(0), 0);
        due("1 of none", x.end(1), -1);
        x.feed(0x70617373, 0x3b706173, 0x73202020, 0x20202020, 0x20202020);
        due("all", x.end(20), 20);
        due("one more", x.end(21), -1);
        due("far more", x.end(Integer.MAX_VALUE), -1);
        due("-1", x.end(-1), -1);
        due("far below", x.end(Integer.MIN_VALUE), -1);
        due("20 still", x.count(6), 20);
        due("the first four", x.end(4), 4);
        due("the fifth no more", x.end(5), -1);
        due("pass", x.orders(), 1);
        x.feed(0, 0, 0, 0, 0);
        due("none", x.end(0), 0);
        due("no byte", x.count(6), 0);
        due("it is not refused", x.status(), 0);
    }

    private static void row() {
        sentence("A ROW, the TAPE is empty then: how many GATES came. -6 the TAPE is empty.");
        CountGates x = new CountGates();
        due("empty", x.row(), -6);
        Checks.write(x, new byte[] {0, 1, 2, 3});
        due("one", x.row(), 1);
        due("empty then", x.count(6), 0);
        due("empty again", x.row(), -6);
        Checks.write(x, new byte[] {9, 9, 9, 9});
        due("none came", x.row(), 0);
        due("empty then, too", x.count(6), 0);
        Checks.write(x, new byte[40]);
        due("nine for which there is room", x.row(), 9);
        due("status", x.status(), 0);
    }

    private static void rust() {
        sentence("How many times there was RUST in the latest row() that was not REFUSED (0 ahead of any).");
        CountGates x = new CountGates();
        due("ahead of any", x.rust(), 0);
        x.row();
        due("behind a refused one", x.rust(), 0);
        Checks.write(x, new byte[] {9, 9, 9, 9, 9});
        x.row();
        due("two", x.rust(), 2);
        x.row();
        due("two still", x.rust(), 2);
        Checks.write(x, new byte[4]);
        x.row();
        due("none", x.rust(), 0);
    }

    private static void law() {
        sentence("The TAPE, which is empty then, becomes a LAW: its number. -5 (ahead of reading it; the TAPE is empty then, too); -6 (blanks alone: FAULT at the end).");
        CountGates x = new CountGates();
        due("no byte", x.law(), -6);
        due("fault at the end of none", x.fault(), 0);
        due("a blank", Checks.law(x, " "), -6);
        due("fault at its end", x.fault(), 1);
        due("empty then", x.count(6), 0);
        due("400 blanks", Checks.law(x, " ".repeat(400)), -6);
        due("fault at their end", x.fault(), 400);
        due("no law", x.count(4), 0);
        for (int i = 0; i < 6; i++) {
            due("its number", Checks.law(x, "bars"), i);
        }
        due("empty behind a law", x.count(6), 0);
        due("fault", x.fault(), -1);
        due("no room", Checks.law(x, "bars bars"), -5);
        due("empty behind that, too", x.count(6), 0);
        due("it was not read", x.fault(), -1);
        due("no room for none", x.law(), -5);
        due("six", x.count(4), 6);
    }

    private static void orders() {
        sentence("ORDERS, the TAPE is empty then: how many were run. -3 one can't be; -6 (as for law()).");
        CountGates x = two();
        due("no byte", x.orders(), -6);
        due("fault at the end of none", x.fault(), 0);
        due("blanks", Checks.orders(x, "   "), -6);
        due("fault at their end", x.fault(), 3);
        due("a law is none", Checks.orders(x, "bars"), -6);
        due("one", Checks.orders(x, "pass"), 1);
        due("empty then", x.count(6), 0);
        due("none was run", Checks.orders(x, "pass if 1 = 2"), 0);
        due("one can't be", Checks.orders(x, "latch 2"), -3);
        due("empty behind that", x.count(6), 0);
        due("a fault ahead of all", Checks.orders(x, "pass;latch 2;pass pass"), -6);
        due("empty behind a fault", x.count(6), 0);
        due("a day", x.count(13), 1);
        String fullest = "pass if " + "1=1 and ".repeat(23) + "1=1 or 1=2";
        for (int i = 0; i < 12; i++) {
            due("as often as one likes", Checks.orders(x, fullest), 1);
        }
        due("a day each time", x.count(13), 13);
        due("the last's test is asked, too", Checks.orders(x, "pass if 1 = 2"), 0);
    }

    private static void fault() {
        sentence("FAULT of the latest law(), orders() that read a TEXT: its place; NONE without.");
        CountGates x = two();
        due("ahead of any", x.fault(), -1);
        Checks.law(x, "bars if");
        due("of a law", x.fault(), 7);
        x.row();
        x.pass();
        due("other calls leave it", x.fault(), 7);
        Checks.orders(x, "pass");
        due("none", x.fault(), -1);
        Checks.orders(x, "pass 1");
        due("of orders", x.fault(), 5);
        Checks.orders(x, "latch 9");
        due("one that can't be is no fault", x.fault(), -1);
        Checks.orders(x, ";");
        due("at the first", x.fault(), 0);
        for (int i = 0; i < 7; i++) {
            Checks.law(x, "bars");
        }
        due("a law", x.fault(), -1);
        Checks.orders(x, "pass )");
        Checks.law(x, "bars");
        due("no law that was not read", x.fault(), 5);
    }

    private static void stopped() {
        sentence("Which CLAUSE of the latest orders() could not be. NONE.");
        CountGates x = two();
        due("ahead of any", x.stopped(), -1);
        Checks.orders(x, "latch 9");
        due("the first", x.stopped(), 0);
        Checks.law(x, "bars if");
        due("a law leaves it", x.stopped(), 0);
        Checks.orders(x, "pass;".repeat(11) + "latch 9");
        due("the twelfth", x.stopped(), 11);
        Checks.orders(x, "pass");
        due("none", x.stopped(), -1);
        Checks.orders(x, "pass times 20;pass if 1=2;latch 9 if 1=2;latch 2");
        due("those not run count", x.stopped(), 3);
        Checks.orders(x, "latch 9;pass pass");
        due("none with a fault", x.stopped(), -1);
    }

    private static void force() {
        sentence("A LAW is in FORCE (NONE: none): which was. -2.");
        CountGates x = new CountGates();
        due("none, none was", x.force(-1), -1);
        due("that was not refused", x.status(), 0);
        due("no law 0", x.force(0), -2);
        Checks.law(x, "bars");
        due("law 0, none was", x.force(0), -1);
        due("that was not refused either", x.status() + x.count(7), 0);
        due("law 0, which was", x.force(0), 0);
        due("no law 1", x.force(1), -2);
        due("no law -2", x.force(-2), -2);
        due("no law far off", x.force(Integer.MAX_VALUE), -2);
        due("law 0 still", x.count(12), 0);
        due("none, law 0 was", x.force(-1), 0);
        due("none", x.count(12), -1);
    }

    private static void go() {
        sentence("To GO through a GATE: MANY then. -2; -3.");
        CountGates x = two();
        due("no gate", x.go(0, 2), -2);
        due("no goer", x.go(1, 0), -2);
        due("from elsewhere", x.go(0, 1), -3);
        due("5", x.go(0, 0), 4);
        due("4", x.go(0, 1), 3);
        for (int want : new int[] {2, 1, 0, 0}) {
            due("down to none", x.go(0, x.of(0, 0)), want);
        }
        x.latch(0);
        due("shut", x.go(0, 0), -3);
        x.latch(0);
        Checks.force(x, "bars");
        due("barred", x.go(0, 0), -3);
    }

    private static void latchSetPass() {
        CountGates x = two();
        sentence("To LATCH: whether it is OPEN then (1, 0). -2.");
        due("shut", x.latch(1), 0);
        due("open", x.latch(1), 1);
        due("gate 2", x.latch(2), -2);
        due("gate -1", x.latch(-1), -2);
        sentence("To SET an ARM: what it was. -1 (the ARM); -2; -3 (it is so already).");
        due("was 5", x.set(1, 0), 5);
        due("so already", x.set(1, 0), -3);
        due("arm 10", x.set(1, 10), -1);
        due("arm -1", x.set(1, -1), -1);
        due("gate 2", x.set(2, 0), -2);
        due("gate 2, arm 10", x.set(2, 10), -1);
        sentence("A DAY: its number. -3.");
        due("the first", x.pass(), 1);
        x.terms(0, 998);
        due("the last", x.pass(), 999);
        due("none beyond", x.pass(), -3);
    }

    private static void undo() {
        sentence("The latest go(), latch(), set(), pass() (by ORDERS, too; 16 are kept) is undone: 0 .. 3. -3 there is none");
        CountGates x = two();
        due("none", x.undo(), -3);
        x.go(0, 0);
        x.latch(0);
        x.set(0, 9);
        x.pass();
        Checks.orders(x, "pass;set 0 as 1;latch 0;go 0 by 1");
        due("eight", x.count(5), 8);
        for (int want : new int[] {0, 1, 2, 3, 3, 2, 1, 0}) {
            due("undone", x.undo(), want);
        }
        due("none more", x.undo(), -3);
        x.latch(0);
        Checks.orders(x, "pass times 15");
        due("sixteen", x.count(5), 16);
        x.pass();
        due("sixteen at most", x.count(5), 16);
        for (int i = 0; i < 16; i++) {
            due("a pass", x.undo(), 3);
        }
        due("the latch is not kept", x.undo(), -3);
        due("shut still", x.at(0, 4), 0);
        due("day", x.count(13), 0);
        Checks.orders(x, "pass times 20");
        due("sixteen by orders", x.count(5), 16);
        x.undo();
        due("fifteen", x.count(5), 15);
        x.pass();
        due("what was undone can't be undone", x.count(5), 16);
        undoneEach();
    }

    /** Seventeen steps of which each is another one; all but the first are undone, each as it was ahead. */
    private static void undoneEach() {
        CountGates x = new CountGates();
        for (int i = 0; i < 4; i++) {
            x.gate(i + 1, i + 2, 0, i + 2);
            x.goer(i + 1, 10 + i, 0);
        }
        x.pass();
        String[] ahead = new String[16];
        for (int i = 0; i < 16; i++) {
            ahead[i] = steps(x);
            if (i % 4 == 0) {
                x.go(i / 4, i / 4);
            } else if (i % 4 == 1) {
                x.latch(i / 4);
            } else if (i % 4 == 2) {
                x.set(i / 4, 9 - i / 4);
            } else {
                x.pass();
            }
        }
        for (int i = 15; i >= 0; i--) {
            due("undo " + i, x.undo(), i % 4);
            due("as it was ahead of " + i, steps(x).equals(ahead[i]) ? 1 : 0, 1);
        }
        due("the first is not kept", x.undo(), -3);
        due("the first day stays", x.count(13), 1);
    }

    /** All that steps change of four gates and four goers, in 21 calls. */
    private static String steps(CountGates x) {
        StringBuilder all = new StringBuilder().append(x.count(13));
        for (int i = 0; i < 4; i++) {
            all.append(' ').append(x.at(i, 3)).append(' ').append(x.at(i, 4));
            all.append(' ').append(x.of(i, 0)).append(' ').append(x.of(i, 1)).append(' ').append(x.of(i, 3));
        }
        return all.toString();
    }

    private static void undoEnds() {
        sentence("(nothing that was ahead of a gate(), goer(), terms(), row() that was not REFUSED can be undone)");
        ended("gate", x -> x.gate(0, 0, 0, 0), 0);
        ended("gate refused", x -> x.gate(0, 0, 8, 0), 1);
        ended("goer", x -> x.goer(0, 0, 0), 0);
        ended("goer refused", x -> x.goer(6, 0, 0), 1);
        ended("terms", x -> x.terms(1, 1), 0);
        ended("terms refused", x -> x.terms(1, 11), 1);
        ended("row refused", x -> x.row(), 1);
        ended("row", PromiseEdgesTest::rustyRow, 0);
        ended("law", x -> Checks.law(x, "bars"), 1);
        ended("force", x -> x.force(-1), 1);
        ended("seen", x -> x.seen(0, 0, 0), 1);
        ended("forget", x -> x.forget(), 1);
        ended("days", x -> x.days(0, 9), 1);
        ended("image", x -> x.image(0), 1);
        ended("back refused", x -> x.back(0), 1);
        ended("orders with a fault", x -> Checks.orders(x, "pass;"), 1);
        ended("orders that can't be", x -> Checks.orders(x, "pass;latch 9"), 1);
        ended("gate without room", x -> fullOfGates(x), 1);
    }

    private static void ended(String name, ToIntFunction<CountGates> call, int left) {
        CountGates x = two();
        x.latch(0);
        call.applyAsInt(x);
        due("left behind " + name, x.count(5), left);
        due("undo behind " + name, x.undo(), left == 1 ? 1 : -3);
    }

    private static int rustyRow(CountGates x) {
        Checks.write(x, new byte[] {9});
        return x.row();
    }

    private static int fullOfGates(CountGates x) {
        for (int i = 2; i < 10; i++) {
            x.gate(0, 0, 0, 0);
        }
        x.latch(0);
        return x.gate(0, 0, 0, 0);
    }

    private static void way() {
        sentence("A WAY (many 0 .. 19, NONE): how many GATES (i NONE), the i-th. NONE (there is none).");
        CountGates x = two();
        due("as 0", x.way(0, 1, 0, -1), 5);
        due("the first", x.way(0, 1, 0, 0), 0);
        due("the second", x.way(0, 1, 0, 1), 1);
        due("the last", x.way(0, 1, 0, 4), 0);
        due("behind the last", x.way(0, 1, 0, 5), -1);
        due("i far off", x.way(0, 1, 0, Integer.MAX_VALUE), -1);
        due("i -2", x.way(0, 1, 0, -2), -1);
        due("i far below", x.way(0, 1, 0, Integer.MIN_VALUE), -1);
        due("none as 19", x.way(0, 1, 19, -1), -1);
        due("none as 19: the first", x.way(0, 1, 19, 0), -1);
        due("many 20", x.way(0, 1, 20, -1), -1);
        due("many -2", x.way(0, 1, -2, -1), -1);
        due("none of none", new CountGates().way(0, 0, -1, -1), -1);
    }

    private static void cheapManysReach() {
        CountGates x = two();
        sentence("CHEAP. NONE (it can't come there so).");
        due("so now", x.cheap(0, 0, 5), 0);
        due("can't so", x.cheap(0, 0, 4), -1);
        due("can't at all", x.cheap(0, 2, -1), -1);
        due("many 20", x.cheap(0, 0, 20), -1);
        sentence("MANYS, as bits. NONE.");
        due("there", x.manys(0, 0), 1 << 5 | 1 << 3 | 1 << 1 | 1);
        due("in none", x.manys(0, 5), 0);
        due("park 6", x.manys(0, 6), -1);
        due("goer 1", x.manys(1, 0), -1);
        sentence("REACH, as bits. NONE.");
        due("two", x.reach(0), 3);
        due("goer 1", x.reach(1), -1);
        due("goer -1", x.reach(-1), -1);
    }

    private static void waysAndLikely() {
        CountGates x = two();
        sentence("WAYS of n GATES 0 .. 12. NONE.");
        due("0", x.ways(0, 0, 5, 0), 1);
        due("12", x.ways(0, 0, 0, 12), 1);
        due("13", x.ways(0, 1, -1, 13), -1);
        due("-1", x.ways(0, 0, -1, -1), -1);
        due("far off", x.ways(0, 0, -1, Integer.MAX_VALUE), -1);
        due("many 20", x.ways(0, 0, 20, 0), -1);
        due("many -2", x.ways(0, 0, -2, 0), -1);
        sentence("LIKELY behind n steps 0 .. 30. NONE.");
        due("0", x.likely(0, 0, 5, 0), 1_000_000_000_000L);
        due("30", x.likely(0, 0, 0, 30), 1_000_000_000_000L);
        due("31", x.likely(0, 1, -1, 31), -1);
        due("-1", x.likely(0, 0, -1, -1), -1);
        due("far off", x.likely(0, 0, -1, Integer.MAX_VALUE), -1);
        due("many 20", x.likely(0, 0, 20, 0), -1);
        due("many -2", x.likely(0, 0, -2, 0), -1);
    }

    private static void again() {
        sentence("AGAIN, from the MANY a GOER is now: STEPS ahead (what 0), after how many it comes each time (1). NONE.");
        CountGates x = two();
        due("from 5", x.again(0, 0, 0), 5);
        due("each time", x.again(0, 0, 1), 1);
        x.go(0, 0);
        due("from 4", x.again(0, 0, 0), 4);
        due("what 2", x.again(0, 0, 2), -1);
        for (int what : NO_WHAT) {
            due("what " + what, x.again(0, 0, what), -1);
        }
        due("gate 2", x.again(0, 2, 0), -1);
        due("goer 1", x.again(1, 0, 0), -1);
    }

    private static void fixedAndCut() {
        CountGates x = two();
        sentence("FIXED (100: there is a WAY now). NONE.");
        due("so now", x.fixed(0, 0, 5), 100);
        due("by gates as they are", x.fixed(0, 1, 0), 100);
        due("no arm helps", x.fixed(0, 1, 5), -1);
        due("many 20", x.fixed(0, 0, 20), -1);
        due("many -2", x.fixed(0, 0, -2), -1);
        sentence("CUT: how many GATES (what 0), which, as bits (1). NONE (it is there).");
        due("one", x.cut(0, 1, 0), 1);
        due("gate 0", x.cut(0, 1, 1), 1);
        due("it is there", x.cut(0, 0, 0), -1);
        due("it is there, as bits", x.cut(0, 0, 1), -1);
        due("what 2", x.cut(0, 1, 2), -1);
        for (int what : NO_WHAT) {
            due("what " + what, x.cut(0, 1, what), -1);
        }
    }

    private static void meet() {
        sentence("To MEET: where and as how many (what 0), how long the longer WAY is (1). NONE (they can't; one alone).");
        CountGates x = two();
        x.goer(1, 4, 0);
        x.goer(5, 4, 0);
        due("where the other is", x.meet(0, 1, 0), 24);
        due("one gate", x.meet(0, 1, 1), 1);
        due("they can't", x.meet(0, 2, 0), -1);
        due("they can't: how long", x.meet(0, 2, 1), -1);
        due("one alone", x.meet(0, 0, 0), -1);
        due("one alone: how long", x.meet(0, 0, 1), -1);
        due("goer 3", x.meet(0, 3, 0), -1);
        due("goer -1", x.meet(-1, 0, 0), -1);
        due("what 2", x.meet(0, 1, 2), -1);
        for (int what : NO_WHAT) {
            due("what " + what, x.meet(0, 1, what), -1);
        }
    }

    private static void seenAndForget() {
        sentence("SEEN: how often there was. -1; -5.");
        CountGates x = new CountGates();
        for (int i = 1; i <= 6; i++) {
            due("so often", x.seen(9, 19, 18), i);
        }
        due("-5", x.seen(9, 19, 18), -5);
        due("-1", x.seen(9, 19, 20), -1);
        sentence("SEEN is nothing then: how often there was.");
        due("six", x.forget(), 6);
        due("none", x.forget(), 0);
        due("nothing", x.count(3), 0);
        due("room again", x.seen(0, 0, 19), 1);
        sentence("KINDS that it can be, as bits.");
        due("none", x.kinds(), 0);
        x.forget();
        due("all", x.kinds(), 255);
    }

    private static void ask() {
        sentence("To ASK a gate of an ARM: the MANY (what 0), how many KINDS are left at most (1). NONE (no KINDS).");
        CountGates x = new CountGates();
        due("the many", x.ask(9, 0), 0);
        due("eight left", x.ask(9, 1), 8);
        due("arm 10", x.ask(10, 0), -1);
        due("arm -1", x.ask(-1, 0), -1);
        due("what 2", x.ask(0, 2), -1);
        for (int what : NO_WHAT) {
            due("what " + what, x.ask(0, what), -1);
        }
        x.seen(0, 0, 1);
        due("no kinds", x.ask(0, 0), -1);
        due("no kinds: how many", x.ask(0, 1), -1);
    }

    private static void few() {
        sentence("FEW, k 1 .. 20, n 0 .. 99. NONE.");
        CountGates x = new CountGates();
        due("k 1, n 0", x.few(1, 0), 1_000_000_000_000L);
        due("k 20, n 0", x.few(20, 0), 1_000_000_000_000L);
        x.terms(1, 0);
        due("k 20, n 99", x.few(20, 99), 1_000_000_000_000L);
        due("k 0", x.few(0, 0), -1);
        due("k 21", x.few(21, 0), -1);
        due("n -1", x.few(1, -1), -1);
        due("n 100", x.few(1, 100), -1);
        due("k far off", x.few(Integer.MAX_VALUE, 1), -1);
        due("n far off", x.few(1, Integer.MAX_VALUE), -1);
        due("k far below", x.few(Integer.MIN_VALUE, 1), -1);
        due("n far below", x.few(1, Integer.MIN_VALUE), -1);
    }

    private static void compare() {
        sentence("COMPARED. NONE (no such LAW; there is no WAY).");
        CountGates x = two();
        due("no law 0", x.compare(0, 0, 1, -1), -1);
        due("none", x.compare(-1, 0, 1, -1), 1);
        Checks.law(x, "bars");
        due("no way by law 0", x.compare(0, 0, 1, -1), -1);
        due("so now", x.compare(0, 0, 0, 5), 0);
        due("no law 1", x.compare(1, 0, 0, 5), -1);
        due("no law -2", x.compare(-2, 0, 0, 5), -1);
        due("many 20", x.compare(0, 0, 0, 20), -1);
        due("park 6", x.compare(0, 0, 6, -1), -1);
        due("goer 1", x.compare(0, 1, 0, -1), -1);
    }

    private static void days() {
        sentence("DAYS, kept as the latest: how many times one went through a GATE. -1; -3 there are no GOERS, no GATES.");
        CountGates x = new CountGates();
        due("neither", x.days(0, 1), -3);
        due("neither, seed -1", x.days(-1, 1), -1);
        x.gate(0, 0, 0, 0);
        due("no goers", x.days(0, 1), -3);
        CountGates y = new CountGates();
        y.goer(0, 9, 0);
        due("no gates", y.days(0, 1), -3);
        y.gate(0, 1, 0, 0);
        due("one goes once alone", y.days(1_000_000, 60), 1);
        due("latest", y.drawn(0, 0), 1);
        y.latch(0);
        due("none goes", y.days(0, 60), 0);
        due("latest then", y.drawn(0, 0), 0);
        due("n 61", y.days(0, 61), -1);
        due("n 0", y.days(0, 0), -1);
        due("seed 1000001", y.days(1_000_001, 60), -1);
    }

    private static void drawn() {
        sentence("Behind the latest DAYS the PARK (what 0), MANY (1), PAID (2) of a GOER. NONE.");
        CountGates x = two();
        due("ahead of any", x.drawn(0, 0), -1);
        x.days(0, 0);
        due("behind refused ones", x.drawn(0, 0), -1);
        due("three times", x.days(0, 3) >= 0 ? 1 : 0, 1);
        x.latch(0);
        x.days(0, 60);
        due("park", x.drawn(0, 0), 0);
        due("many", x.drawn(0, 1), 5);
        due("paid", x.drawn(0, 2), 0);
        x.days(0, 61);
        due("the latest that was not refused", x.drawn(0, 1), 5);
        due("what 3", x.drawn(0, 3), -1);
        for (int what : NO_WHAT) {
            due("what " + what, x.drawn(0, what), -1);
        }
        due("goer 1", x.drawn(1, 0), -1);
        due("goer -1", x.drawn(-1, 0), -1);
        due("goer far off", x.drawn(Integer.MAX_VALUE, 0), -1);
    }

    private static void imageAndBack() {
        sentence("IMAGE k is kept: 0; -1.");
        CountGates x = two();
        due("0", x.image(0), 0);
        due("2", x.image(2), -1);
        due("-1", x.image(-1), -1);
        due("far off", x.image(Integer.MIN_VALUE), -1);
        sentence("BACK to IMAGE k: 0. -1; -2 it was not kept.");
        due("not kept", x.back(1), -2);
        due("2", x.back(2), -1);
        due("-1", x.back(-1), -1);
        due("far off", x.back(Integer.MAX_VALUE), -1);
        x.go(0, 0);
        due("kept", x.back(0), 0);
        due("as it was", x.of(0, 1), 5);
        x.go(0, 0);
        x.image(0);
        x.go(0, 1);
        x.back(0);
        due("as it was kept the last time", x.of(0, 1), 4);
        due("1 is not kept still", x.back(1), -2);
        CountGates y = new CountGates();
        y.image(1);
        y.gate(0, 0, 0, 0);
        Checks.force(y, "bars");
        y.terms(1, 5);
        due("back to nothing", y.back(1), 0);
        due("no gate", y.count(0), 0);
        due("no law", y.count(4), 0);
        due("none in force", y.count(12), -1);
        due("bites", y.count(14), 1);
    }

    private static void countEach() {
        sentence("0 GATES, 1 GOERS, 2 all MANY together, 3 SEEN, 4 LAWS, 5 how many can be undone, 6 bytes of the TAPE");
        CountGates x = full();
        x.feed(0, 0, 0, 0, 0);
        int[] want = {10, 5, 14 + 16 + 17 + 18 + 19, 6, 6, 4, 20};
        for (int what = 0; what < want.length; what++) {
            due("count " + what, x.count(what), want[what]);
        }
        CountGates y = new CountGates();
        for (int i = 0; i < 5; i++) {
            y.goer(0, 19, 0);
        }
        due("the most together", y.count(2), 95);
        sentence("12 the LAW in FORCE, 13 .. 15 TERMS 0 .. 2. NONE for others.");
        due("law", x.count(12), 3);
        x.terms(0, 999);
        x.terms(1, 10);
        x.terms(2, 9);
        due("day", x.count(13), 999);
        due("bites", x.count(14), 10);
        due("mood", x.count(15), 9);
        for (int what : NO_WHAT) {
            due("count " + what, x.count(what), -1);
        }
    }

    private static void countsOfRefusals() {
        sentence("7 .. 11 how many calls were REFUSED by -1, -2, -3, -5, -6 (IMAGES do not keep that)");
        CountGates x = full();
        x.image(0);
        for (int i = 0; i < 3; i++) {
            x.gate(-1, 0, 0, 0);
        }
        for (int i = 0; i < 4; i++) {
            x.latch(10);
        }
        for (int i = 0; i < 5; i++) {
            x.set(9, 9);
        }
        for (int i = 0; i < 6; i++) {
            x.gate(0, 0, 0, 0);
        }
        for (int i = 0; i < 7; i++) {
            x.row();
        }
        x.back(0);
        for (int what = 7; what <= 11; what++) {
            due("count " + what, x.count(what), what - 4);
        }
        x.back(1);
        due("one more by -2", x.count(8), 5);
    }

    private static void status() {
        sentence("0 if it was not, or ahead of any.");
        CountGates x = new CountGates();
        due("ahead of any", x.status(), 0);
        x.at(0, 0);
        x.feed(0, 0, 0, 0, 0);
        x.end(30);
        x.rust();
        x.count(99);
        due("ahead of any of these", x.status(), 0);
        x.end(0);
        x.row();
        due("refused", x.status(), -6);
        due("asked again", x.status(), -6);
        x.end(99);
        x.forget();
        x.kinds();
        x.few(0, 0);
        due("others leave it", x.status(), -6);
        x.pass();
        due("not refused", x.status(), 0);
    }

    private static void statusOfEach() {
        sentence("What the latest call of gate, goer, terms, row, law, orders, force, go, latch, set, pass, undo, seen, days, image, back was REFUSED by");
        statusOf("gate", x -> x.gate(0, 0, 8, 0), -1, x -> x.gate(0, 0, 0, 0));
        statusOf("goer", x -> x.goer(0, 20, 0), -1, x -> x.goer(0, 0, 0));
        statusOf("terms", x -> x.terms(3, 0), -1, x -> x.terms(0, 0));
        statusOf("row", x -> x.row(), -6, PromiseEdgesTest::rustyRow);
        statusOf("law", x -> x.law(), -6, x -> Checks.law(x, "bars"));
        statusOf("orders", x -> Checks.orders(x, "latch 9"), -3, x -> Checks.orders(x, "pass"));
        statusOf("orders", x -> x.orders(), -6, x -> Checks.orders(x, "pass if 1 = 2"));
        statusOf("force", x -> x.force(0), -2, x -> x.force(-1));
        statusOf("go", x -> x.go(0, 9), -2, x -> x.go(0, 0));
        statusOf("go", x -> x.go(0, 1), -3, x -> x.go(0, 0));
        statusOf("latch", x -> x.latch(9), -2, x -> x.latch(0));
        statusOf("set", x -> x.set(0, 3), -3, x -> x.set(0, 0));
        statusOf("set", x -> x.set(9, 3), -2, x -> x.set(0, 0));
        statusOf("set", x -> x.set(0, 10), -1, x -> x.set(0, 0));
        statusOf("pass", PromiseEdgesTest::passAtTheLast, -3, PromiseEdgesTest::passAtTheFirst);
        statusOf("undo", x -> x.undo(), -3, PromiseEdgesTest::latchAndUndo);
        statusOf("seen", x -> x.seen(10, 0, 0), -1, x -> x.seen(0, 0, 0));
        statusOf("days", x -> x.days(0, 0), -1, x -> x.days(0, 1));
        statusOf("image", x -> x.image(2), -1, x -> x.image(0));
        statusOf("back", x -> x.back(0), -2, PromiseEdgesTest::imageAndBackTo);
        statusOf("back", x -> x.back(2), -1, PromiseEdgesTest::imageAndBackTo);
        due("days without goers", daysWithoutGoers(), -3);
    }

    private static void statusOf(String name, ToIntFunction<CountGates> refused, int by, ToIntFunction<CountGates> fine) {
        CountGates x = two();
        due(name + " refused", refused.applyAsInt(x), by);
        due("status of " + name + " refused", x.status(), by);
        due(name + " not refused", fine.applyAsInt(x) >= -1 ? 1 : 0, 1);
        due("status of " + name + " not refused", x.status(), 0);
    }

    private static int passAtTheLast(CountGates x) {
        x.terms(0, 999);
        return x.pass();
    }

    private static int passAtTheFirst(CountGates x) {
        x.terms(0, 0);
        return x.pass();
    }

    private static int latchAndUndo(CountGates x) {
        x.latch(0);
        return x.undo();
    }

    private static int imageAndBackTo(CountGates x) {
        x.image(0);
        return x.back(0);
    }

    private static int daysWithoutGoers() {
        CountGates x = new CountGates();
        x.days(0, 1);
        return x.status();
    }

    private static void queriesChangeNothing() {
        sentence("(On paper, DAY as now;");
        CountGates x = full();
        String was = Snapshot.of(x);
        x.way(0, 5, -1, -1);
        x.way(0, 5, 3, 2);
        x.cheap(0, 5, -1);
        x.manys(0, 5);
        x.reach(0);
        x.ways(0, 5, -1, 12);
        x.likely(0, 5, -1, 30);
        x.again(0, 0, 0);
        x.fixed(0, 5, 19);
        x.cut(0, 5, 1);
        x.meet(0, 1, 0);
        x.ask(3, 0);
        x.few(20, 99);
        x.compare(-1, 0, 5, -1);
        x.compare(5, 0, 5, 19);
        x.asks(0, 0, 19, 1);
        due("all as it was", Snapshot.of(x).equals(was) ? 1 : 0, 1);
        due("undo as it was", x.undo(), 3);
    }

    private static void refusedCallsChangeNothing() {
        sentence("REFUSED by: -1 a number that can't be; -2 there is no such GATE, GOER, LAW, IMAGE; -3 it can't be by what stands; -5 no room; -6 a TEXT, a ROW that can't be.");
        unchanged("gate", x -> x.gate(0, 6, 0, 0), -1);
        unchanged("gate", x -> x.gate(0, 0, 0, 0), -5);
        unchanged("goer", x -> x.goer(0, 0, 4), -1);
        unchanged("goer", x -> x.goer(0, 0, 0), -5);
        unchanged("terms", x -> x.terms(0, 1000), -1);
        unchanged("row", x -> x.row(), -6);
        unchanged("law", x -> Checks.law(x, "turns 3"), -5);
        unchanged("orders", x -> x.orders(), -6);
        unchanged("orders", x -> Checks.orders(x, "pass;latch 0;set 0 as 7;go 1 by 7;go 0 by"), -6);
        unchanged("orders", x -> Checks.orders(x, "pass;latch 0;set 0 as 7;go 2 by 8;go 0 by 0"), -3);
        unchanged("force", x -> x.force(6), -2);
        unchanged("go", x -> x.go(5, 0), -2);
        unchanged("go", x -> x.go(1, 10), -2);
        unchanged("go", x -> x.go(0, 0), -3);
        unchanged("latch", x -> x.latch(10), -2);
        unchanged("set", x -> x.set(0, 10), -1);
        unchanged("set", x -> x.set(10, 0), -2);
        unchanged("set", x -> x.set(2, 9), -3);
        unchanged("seen", x -> x.seen(0, 0, 20), -1);
        unchanged("seen", x -> x.seen(0, 0, 0), -5);
        unchanged("days", x -> x.days(0, 61), -1);
        unchanged("image", x -> x.image(2), -1);
        unchanged("back", x -> x.back(-1), -1);
        unchanged("back", x -> x.back(0), -2);
    }

    private static void unchanged(String name, ToIntFunction<CountGates> call, int by) {
        CountGates x = full();
        String was = Snapshot.of(x);
        int counted = by < -3 ? 5 - by : 6 - by;
        due(name, call.applyAsInt(x), by);
        due("status of " + name + " " + by, x.status(), by);
        for (int what = 7; what <= 11; what++) {
            due("count " + what + " behind " + name + " " + by, x.count(what), what == counted ? 1 : 0);
        }
        due("all as it was behind " + name + " " + by, Snapshot.of(x).equals(was) ? 1 : 0, 1);
        for (int want = 3; want >= 0; want--) {
            due("undo behind " + name + " " + by, x.undo(), want);
        }
    }
}
