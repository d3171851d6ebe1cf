/** Promises 8 to 16: the tape, rows of gates, laws, orders, their faults. */
public final class TextsTest {
    private static final Checks CHECKS = new Checks("TextsTest");

    public static void main(String[] args) {
        feedAndEnd();
        row();
        lawNumbers();
        force();
        lawFaults();
        limits();
        sums();
        tests();
        orderFaults();
        ordersRun();
        orderWords();
        ordersStop();
        ordersAtEnds();
        faultStays();
        CHECKS.finish();
    }

    private static void due(String call, long got, long want) {
        CHECKS.due(call, got, want);
    }

    private static void feedAndEnd() {
        CountGates x = new CountGates();
        for (int n = 20; n <= 400; n += 20) {
            due("feed " + n, x.feed(0, 0, 0, 0, 0), n);
        }
        due("feed beyond", x.feed(0, 0, 0, 0, 0), -1);
        due("tape stays", x.count(6), 400);
        due("not refused", x.status(), 0);
        due("end 401", x.end(401), -1);
        due("end -1", x.end(-1), -1);
        due("end 400", x.end(400), 400);
        due("end 381", x.end(381), 381);
        due("feed would be 401", x.feed(0, 0, 0, 0, 0), -1);
        due("end 380", x.end(380), 380);
        due("feed to 400", x.feed(0, 0, 0, 0, 0), 400);
        due("end 0", x.end(0), 0);
        due("end 1 of none", x.end(1), -1);
        due("feed anew", x.feed(0x05040302, 0x01020309, 0x00010000, 0x02020202, 0xff000000), 20);
        due("row", x.row(), 4);
        due("rust of the byte 255", x.rust(), 1);
        due("highest byte first", x.at(0, 0), 5);
        due("second byte", x.at(0, 1), 4);
        due("third byte", x.at(0, 2), 3);
        due("lowest byte last", x.at(0, 3), 2);
        due("second number", x.at(1, 3), 9);
    }

    private static void row() {
        CountGates x = new CountGates();
        due("empty", x.row(), -6);
        due("rust ahead of any", x.rust(), 0);
        Checks.write(x, new byte[] {0, 1, 2, 3, 6, 0, 0, 0, 0, 6, 0, 0, 0, 0, 8, 0, 0, 0, 0, 10, 0, 0, 0});
        due("one gate", x.row(), 1);
        due("five times rust", x.rust(), 5);
        due("tape empty", x.count(6), 0);
        due("refused", x.row(), -6);
        due("rust of the latest not refused", x.rust(), 5);
        x.latch(0);
        Checks.write(x, new byte[] {1});
        due("no gate", x.row(), 0);
        due("rust of a piece", x.rust(), 1);
        due("nothing to undo behind a row", x.count(5), 0);
        Checks.write(x, new byte[4 * 11]);
        due("nine more", x.row(), 9);
        due("no room for two", x.rust(), 2);
        due("gates", x.count(0), 10);
        due("row is not refused", x.status(), 0);
        due("row gates are open", x.at(9, 4), 1);
    }

    private static void lawNumbers() {
        CountGates x = new CountGates();
        for (int i = 0; i < 6; i++) {
            due("law " + i, Checks.law(x, "bars"), i);
        }
        due("tape empty", x.count(6), 0);
        Checks.write(x, "turns");
        due("no room", x.law(), -5);
        due("tape empty behind that", x.count(6), 0);
        due("not read", x.fault(), -1);
        due("laws", x.count(4), 6);
        due("in force", x.count(12), -1);
    }

    private static void force() {
        CountGates x = new CountGates();
        due("none", x.force(-1), -1);
        due("no law 0", x.force(0), -2);
        Checks.law(x, "bars");
        Checks.law(x, "bars if 1 = 1");
        due("law 1", x.force(1), -1);
        due("law 0", x.force(0), 1);
        due("no law 2", x.force(2), -2);
        due("no law -2", x.force(-2), -2);
        due("still law 0", x.count(12), 0);
        due("none again", x.force(-1), 0);
        due("none in force", x.count(12), -1);
    }

    private static void lawFault(String text, int place) {
        CountGates x = new CountGates();
        int answer = Checks.law(x, text);
        due("law '" + text + "'", answer, place == -1 ? 0 : -6);
        due("fault of '" + text + "'", x.fault(), place);
        due("laws", x.count(4), place == -1 ? 1 : 0);
        due("tape", x.count(6), 0);
    }

    private static void lawFaults() {
        lawFault("", 0);
        lawFault("   ", 3);
        lawFault("turns 1", -1);
        lawFault("  turns1  ", -1);
        lawFault("turns[many+1]%7", -1);
        lawFault("turns 1;", 8);
        lawFault("turns 1; ", 9);
        lawFault(";turns 1", 0);
        lawFault("turns 1;;bars", 8);
        lawFault("turns 1 bars", 8);
        lawFault("turns 1000", -1);
        lawFault("turns 1001", 6);
        lawFault("turns 00000000000000000001000", -1);
        lawFault("turns 99999999999999999999999999", 6);
        lawFault("turns 4294967296", 6);
        lawFault("turns -1", 6);
        lawFault("turns 1 +", 9);
        lawFault("turns 1 + * 2", 10);
        lawFault("turns (1)", 6);
        lawFault("turns [1", 8);
        lawFault("turns [1)", 8);
        lawFault("turns []", 7);
        lawFault("turns 1]", 7);
        lawFault("turnsmany", 0);
        lawFault("turns manyif 1=1", 6);
        lawFault("turns many2", 10);
        lawFault("turns Many", 6);
        lawFault("turnsz 1", 0);
        lawFault("aturns 1", 0);
        lawFault("turns`1", 5);
        lawFault("turns{1", 5);
        lawFault("turns :1", 6);
        lawFault("turns /1", 6);
        lawFault("turns 1:", 7);
        lawFault("turns\t1", 5);
        lawFault("turns done", 6);
        lawFault("turns park", 6);
        lawFault("turns 1 times 2", 8);
        lawFault("go 0 by 0", 0);
        lawFault("bars 1", 5);
        lawFault("bars if", 7);
        lawFault("bars if 1", 9);
        lawFault("bars if 1=", 10);
        lawFault("bars if 1==1", 10);
        lawFault("bars if 1<2<3", 11);
        lawFault("bars if 1=1 or", 14);
        lawFault("bars if or 1=1", 8);
        lawFault("bars if not", 11);
        lawFault("bars if (1=1", 12);
        lawFault("bars if (1)=1", 10);
        lawFault("bars if [1=1]", 10);
        lawFault("bars if (1=1]", 12);
        lawFault("bars if ((1=1) and not(2=2)) or 3=3", -1);
        lawFault("bars if 1=1 if 2=2", 12);
        lawFault("bars if [1]=1", -1);
        lawFault("bars if not not not 1 = 1", -1);
        lawFault("bars if notnot 1 = 1", 8);
        lawFault("bars" + (char) 233, 4);
        lawFault("bars" + (char) 0, 4);
    }

    private static void limits() {
        String twelve = "bars" + ";bars".repeat(11);
        lawFault(twelve, -1);
        lawFault(twelve + "; bars", 61);
        lawFault(twelve + ";", 60);
        lawFault("turns 1" + "+1".repeat(49), -1);
        lawFault("turns 1" + "+1".repeat(49) + "+many", 106);
        lawFault("turns 1" + "+1".repeat(49) + "+[many", 107);
        lawFault("turns 1" + "+1".repeat(48) + ";pays 1;pays 1", 116);
        lawFault("turns 1" + "+1".repeat(49) + ";bars if 1 = 1", 114);
        lawFault("turns " + "[".repeat(8) + "1" + "]".repeat(8), -1);
        lawFault("turns " + "[".repeat(9) + "1" + "]".repeat(9), 14);
        lawFault("turns [[1]+[1]]+" + "[".repeat(8) + "1" + "]".repeat(8), -1);
        lawFault("bars if " + "(".repeat(5) + "[[[1]]]=[[[1]]]" + ")".repeat(5), -1);
        lawFault("bars if " + "(".repeat(5) + "[[[[1]]]]=1" + ")".repeat(5), 16);
        lawFault("bars if " + "(".repeat(9) + "1=1" + ")".repeat(9), 16);
        lawFault("bars if " + "not ".repeat(97) + "1=1", -1);
        lawFault("bars" + " ".repeat(396), -1);
        lawFault("bars" + " ".repeat(395) + "x", 399);
        lawFault("(".repeat(400), 0);
        lawFault(" ".repeat(399) + ")", 399);
        lawFault(" ".repeat(396) + "bars", -1);
        lawFault("bars;" + ";".repeat(395), 5);
    }

    /** As how many one comes out by a sum that is from 0 to 19; 7 if it is broken. */
    private static void sum(String sum, int want) {
        CountGates x = new CountGates();
        x.gate(0, 0, 0, 0);
        x.goer(0, 0, 0);
        Checks.force(x, "turns 7; turns " + sum);
        due("sum " + sum, x.asks(0, 0, 0, 0), want);
    }

    private static void sums() {
        sum("1 + 2 * 3", 7);
        sum("[1 + 2] * 3", 9);
        sum("10 - 3 - 2", 5);
        sum("10 - [3 - 2]", 9);
        sum("17 % 10 * 2", 14);
        sum("20 / 3 * 2", 12);
        sum("2 + 17 / 5 % 2", 3);
        sum("10 + [0 - 7] / 2", 7);
        sum("10 + [0 - 7] % 3", 9);
        sum("10 + 7 % [0 - 3]", 11);
        sum("1000 * 1000 * 1000 - 1000 * 1000 * 1000 + 1", 1);
        sum("1000 * 1000 * 1000 / 1000 / 1000 / 100", 10);
        sum("[1000 * 1000 * 1000 + 1] * 0 + 3", 7);
        sum("[0 - 1000 * 1000 * 1000] * 0 + 3", 3);
        sum("[0 - 1000 * 1000 * 1000 - 1] * 0 + 3", 7);
        sum("1000 * 1000 * 1000 * 1000 * 1000 * 1000 * 1000 * 0", 7);
        sum("5 + 1 / 0", 7);
        sum("0 * [1 % 0]", 7);
        sum("3 / [1 - 1] + 2", 7);
    }

    /** 1 so, 0 not so, by what a clause and its contrary tell; -1 broken. */
    private static void test(String test, int want) {
        CountGates x = new CountGates();
        x.gate(0, 0, 0, 0);
        x.goer(0, 0, 0);
        Checks.force(x, "turns 1 if " + test + "; pays 5 if not (" + test + ")");
        due("test " + test, x.asks(0, 0, 19, 0), want == 1 ? 1 : 18);
        due("test not " + test, x.asks(0, 0, 19, 1), want == 0 ? 5 : 1);
    }

    private static void tests() {
        test("1 < 2", 1);
        test("2 < 2", 0);
        test("2 > 1", 1);
        test("2 > 2", 0);
        test("2 = 2", 1);
        test("2 = 3", 0);
        test("not 2 = 3", 1);
        test("not not 2 = 3", 0);
        test("1 = 1 or 1 = 2 and 1 = 3", 1);
        test("(1 = 1 or 1 = 2) and 1 = 3", 0);
        test("not 1 = 1 or 1 = 1", 1);
        test("not (1 = 1 or 1 = 1)", 0);
        test("not 1 = 2 and 1 = 2", 0);
        test("1 = 2 or 1 = 2 or 1 = 1", 1);
        test("1 = 1 and 1 = 1 and 1 = 2", 0);
        test("1 = 2 and 1 = 1 or 1 = 1", 1);
        test("1 / 0 = 1", -1);
        test("1 = 1 / 0", -1);
        test("1 = 1 or 1 / 0 = 1", 1);
        test("1 = 2 or 1 / 0 = 1", -1);
        test("1 = 2 and 1 / 0 = 1", 0);
        test("1 = 1 and 1 / 0 = 1", -1);
        test("1 / 0 = 1 or 1 = 1", -1);
        test("1 / 0 = 1 and 1 = 2", -1);
        test("1 = 2 and 1 / 0 = 1 or 1 = 1", 1);
        test("1 = 1 or 1 / 0 = 1 or 1 / 0 = 2", 1);
        test("1 = 1 or 1 = 1 and 1 / 0 = 1", 1);
    }

    private static void orderFault(String text, int place) {
        CountGates x = new CountGates();
        int answer = Checks.orders(x, text);
        due("orders '" + text + "'", answer == -6 ? -6 : 0, place == -1 ? 0 : -6);
        due("fault of '" + text + "'", x.fault(), place);
        due("tape", x.count(6), 0);
        due("day stays", place == -1 ? 0 : x.count(13), 0);
    }

    private static void orderFaults() {
        orderFault("", 0);
        orderFault("  ", 2);
        orderFault("pass", -1);
        orderFault("pass;", 5);
        orderFault("pass 1", 5);
        orderFault("pass;turns 1", 5);
        orderFault("go 0 by 0", -1);
        orderFault("go 0", 4);
        orderFault("go by 0", 3);
        orderFault("go 0 by", 7);
        orderFault("go 0 as 0", 5);
        orderFault("set 0 as 0", -1);
        orderFault("set 0 by 0", 6);
        orderFault("latch", 5);
        orderFault("latch 0 as 0", 8);
        orderFault("pass times 20", -1);
        orderFault("pass times 1", -1);
        orderFault("pass times 0", 11);
        orderFault("pass times 21", 11);
        orderFault("pass times 020", -1);
        orderFault("pass times day", 11);
        orderFault("pass times", 10);
        orderFault("pass times 2 + 1", 13);
        orderFault("pass if 1 = 1 times 2", 14);
        orderFault("pass times 2 times 2", 13);
        orderFault("latch many 4", -1);
        orderFault("latch many 5", 11);
        orderFault("latch many", 10);
        orderFault("latch many + 1", 11);
        orderFault("latch park 4", -1);
        orderFault("latch park 5", 11);
        orderFault("latch arm 9", -1);
        orderFault("latch arm 10", 10);
        orderFault("latch arm [1]", 10);
        orderFault("latch kind", 6);
        orderFault("latch mood", 6);
        orderFault("latch day 1", 10);
        orderFault("go " + "[".repeat(8) + "1" + "]".repeat(8) + " by " + "[".repeat(8) + "1" + "]".repeat(8), -1);
        orderFault("set 1 as " + "[".repeat(8) + "1" + "]".repeat(8), -1);
        orderFault("set 1 as " + "[".repeat(9) + "1" + "]".repeat(9), 17);
        orderFault("latch done", -1);
        orderFault("latch latest", -1);
        orderFault("latch whole", -1);
        orderFault("go many 1 2 by 0", 10);
        orderFault("pass times 20 if many 0" + "+arm 1".repeat(49), 317);
        orderFault("pass times 20 if many 0" + "+arm 1".repeat(48) + "=1", -1);
        orderFault("pass times 20 if many 0" + "+arm 1".repeat(49) + "=park 9", 318);
        orderFault("pass" + ";pass".repeat(11), -1);
        orderFault("pass" + ";pass".repeat(12), 60);
    }

    private static CountGates parks() {
        CountGates x = new CountGates();
        x.gate(0, 1, 0, 3);
        x.gate(1, 0, 0, 4);
        x.gate(0, 0, 0, 5);
        x.goer(0, 6, 0);
        x.goer(1, 1, 0);
        x.goer(2, 1, 0);
        return x;
    }

    private static void ordersRun() {
        CountGates x = parks();
        due("three", Checks.orders(x, "go 0 by 0; latch 1; set 2 as 0"), 3);
        due("went", x.of(0, 0), 1);
        due("shut", x.at(1, 4), 0);
        due("arm", x.at(2, 3), 0);
        due("undoable", x.count(5), 3);
        due("undo set", x.undo(), 2);
        due("undo latch", x.undo(), 1);
        due("undo go", x.undo(), 0);
        due("arm again", x.at(2, 3), 5);
        due("many again", x.of(0, 1), 6);
        due("times", Checks.orders(x, "pass times 20;pass times 3"), 23);
        due("day", x.count(13), 23);
        due("sixteen kept", x.count(5), 16);
        due("not run is not counted", Checks.orders(x, "pass if 1 = 2;pass times 4 if done < 2;pass if 1 / 0 = 1"), 2);
        due("day then", x.count(13), 25);
        due("a broken sum that is not asked", Checks.orders(x, "latch 1 / 0 if 1 = 2; go 9 by 9 if 1 = 2"), 0);
        due("asked each time", Checks.orders(x, "go 0 by 2 times 20 if many 0 > 2"), 4);
        due("many", x.of(0, 1), 2);
        due("stopped", x.stopped(), -1);
        due("done and latest begin anew", Checks.orders(x, "latch 2 if latest = 0 - 1 and done = 0"), 1);
        due("all SUMS ahead of the step", Checks.orders(x, "set 2 as arm 2 + 1; latch 2"), 2);
    }

    /** A day passes if a word is so much behind some orders. */
    private static void word(String ahead, String word, int want) {
        CountGates x = parks();
        int day = x.count(13);
        Checks.orders(x, ahead + ";pass if " + word + " = " + (want < 0 ? "0 - " + -want : want));
        due(word + " behind " + ahead, x.count(13) - day - (ahead.startsWith("pass") ? 1 : 0), 1);
    }

    private static void orderWords() {
        word("pass", "day", 1);
        word("latch 0", "day", 0);
        word("latch 0", "done", 1);
        word("latch 0 times 5", "done", 5);
        word("latch 0;latch 0 if 1 = 2", "done", 1);
        word("latch 0", "latest", -1);
        word("go 0 by 0", "latest", 5);
        word("go 0 by 0;go 0 by 1;latch 0", "latest", 4);
        word("latch 0", "whole", 2);
        word("go 0 by 2 times 5", "whole", 3);
        word("go 1 by 1", "whole", 1);
        word("go 0 by 0", "many 0", 5);
        word("latch 0", "many 2", 1);
        word("latch 0", "many 3", -1);
        word("latch 0", "park 2", 2);
        word("go 0 by 0", "park 0", 1);
        word("latch 0", "park 3", -1);
        word("latch 0", "arm 0", 3);
        word("set 1 as 9", "arm 1", 9);
        word("latch 0", "arm 2", 5);
        word("latch 0", "arm 3", -1);
    }

    private static void stop(String text, int clause) {
        CountGates x = parks();
        x.latch(2);
        x.latch(2);
        due("orders " + text, Checks.orders(x, text), -3);
        due("stopped " + text, x.stopped(), clause);
        due("no fault", x.fault(), -1);
        due("status", x.status(), -3);
        due("one refusal", x.count(9), 1);
        due("no other refusal", x.count(7) + x.count(8) + x.count(10) + x.count(11), 0);
        due("day", x.count(13), 0);
        due("undoable", x.count(5), 2);
        due("park", x.of(0, 0), 0);
        due("many", x.of(0, 1), 6);
        due("paid", x.of(0, 3), 0);
        due("open", x.at(0, 4), 1);
        due("arm", x.at(0, 3), 3);
        due("undo", x.undo(), 1);
        due("undone", x.at(2, 4), 0);
    }

    private static void ordersStop() {
        stop("go 0 by 1", 0);
        stop("pass;go 0 by 0;go 0 by 0", 2);
        stop("pass times 20;go 3 by 0", 1);
        stop("go 0 by 3", 0);
        stop("latch 0;latch 3", 1);
        stop("latch 0;latch 0 - 1", 1);
        stop("set 0 as 4;set 0 as 4", 1);
        stop("set 0 as 10", 0);
        stop("set 3 as 1", 0);
        stop("set 0 as 7;latch 1 / 0", 1);
        stop("go 0 by 0;set 1 / 0 as 1", 1);
        stop("go 0 by 1000 * 1000 * 1000 + 1", 0);
        stop("latch 0;go 0 by 0", 1);
        stop("go 0 by 0 times 2", 0);
        stop("pass times 20 if day < 20;pass if day = 20;go 9 by 0 if day = 21", 2);
    }

    private static void ordersAtEnds() {
        CountGates x = parks();
        x.terms(0, 998);
        due("to the last day", Checks.orders(x, "pass"), 1);
        due("beyond it", Checks.orders(x, "latch 0;pass"), -3);
        due("stopped", x.stopped(), 1);
        due("gate as it was", x.at(0, 4), 1);
        due("most of all", Checks.orders(x, "latch 0 times 20" + ";latch 0 times 20".repeat(11)), 240);
        due("kept", x.count(5), 16);
        due("stopped no more", x.stopped(), -1);
        Checks.orders(x, "latch 9");
        due("stopped again", x.stopped(), 0);
        Checks.orders(x, "latch");
        due("not stopped, but faulty", x.stopped(), -1);
    }

    private static void faultStays() {
        CountGates x = new CountGates();
        Checks.law(x, "turns 1 1");
        due("fault", x.fault(), 8);
        x.gate(0, 0, 0, 0);
        due("fault stays", x.fault(), 8);
        Checks.orders(x, "pass");
        due("none behind orders", x.fault(), -1);
        for (int i = 0; i < 6; i++) {
            Checks.law(x, "bars");
        }
        Checks.orders(x, "pass pass");
        due("fault of orders", x.fault(), 5);
        Checks.law(x, "bars bars bars");
        due("a law that was not read", x.fault(), 5);
        due("it was refused by", x.status(), -5);
    }
}
