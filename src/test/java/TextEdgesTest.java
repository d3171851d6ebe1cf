/** Terms II: each sentence about texts, laws and orders that names an edge, told in the document's words. */
public final class TextEdgesTest {
    private static final Checks CHECKS = new Checks("TextEdgesTest");
    /** Just as far from 0 as a sum may be. */
    private static final String FARTHEST = "1000 * 1000 * 1000";

    public static void main(String[] args) {
        tapeIsFull();
        tokens();
        twelveClauses();
        numbers();
        fiftyParts();
        eightBrackets();
        firstFault();
        wholeGrammar();
        farthestSums();
        dividedByNothing();
        cutTowardsNothing();
        askedOnlyIfItMatters();
        sixLaws();
        noLawInForce();
        words();
        unknownKind();
        holds();
        turns();
        pays();
        bars();
        times();
        numberedWords();
        partsOfOrders();
        asOftenAsTimes();
        asksEachTime();
        sumsFromTheLeft();
        doneLatestWhole();
        withoutSuch();
        whollyOrNotAtAll();
        CHECKS.finish();
    }

    private static void sentence(String words) {
        CHECKS.sentence(words);
    }

    private static void due(String call, long got, long want) {
        CHECKS.due(call, got, want);
    }

    /** The place of the fault, NONE without, as a law. */
    private static int lawFault(String text) {
        CountGates x = new CountGates();
        int answer = Checks.law(x, text);
        due("law " + text + " is refused just if it has a fault", answer, x.fault() == -1 ? 0 : -6);
        return x.fault();
    }

    /** The same as orders, which may well be refused when they are run. */
    private static int orderFault(String text) {
        CountGates x = new CountGates();
        int answer = Checks.orders(x, text);
        due("orders " + text + " can be read just if they have no fault", answer == -6 ? 1 : 0, x.fault() == -1 ? 0 : 1);
        return x.fault();
    }

    private static void fine(String law) {
        due(law, lawFault(law), -1);
    }

    private static void fineOrders(String orders) {
        due(orders, orderFault(orders), -1);
    }

    private static void fault(String law, int place) {
        due(law, lawFault(law), place);
    }

    private static void faultOfOrders(String orders, int place) {
        due(orders, orderFault(orders), place);
    }

    /** By a law, of one who is so many at gate 0 of kind 2, arm 3: what it tells. */
    private static int told(String law, int many, int what) {
        CountGates x = new CountGates();
        x.gate(0, 1, 2, 3);
        x.goer(0, 9, 3);
        due("law " + law, Checks.law(x, law), 0);
        x.force(0);
        return x.asks(0, 0, many, what);
    }

    /** A sum is so much, from -1,000,000,000 to 1,000,000,000. */
    private static void sum(String sum, String want) {
        due(sum + " = " + want, told("bars if " + sum + " = " + want, 5, 2), 1);
    }

    private static void broken(String sum) {
        due(sum + " is broken: no clause of it holds", told("turns 12; turns " + sum, 5, 0), 12);
        due(sum + " is broken: it is not so", told("bars if " + sum + " < 1; bars if " + sum + " > 0", 5, 2), 0);
        due(sum + " is broken: it is not not so", told("bars if not " + sum + " = 0; bars if not " + sum + " = 1", 5, 2), 0);
    }

    private static CountGates parks() {
        CountGates x = new CountGates();
        x.gate(0, 1, 0, 3);
        x.gate(1, 0, 0, 4);
        x.gate(0, 0, 0, 5);
        x.goer(0, 6, 0);
        x.goer(1, 1, 0);
        return x;
    }

    private static void tapeIsFull() {
        sentence("TEXTS are on a TAPE of at most 400 bytes.");
        CountGates x = new CountGates();
        for (int n = 20; n <= 400; n += 20) {
            due("fed", x.feed(0, 0, 0, 0, 0), n);
        }
        due("full", x.feed(0, 0, 0, 0, 0), -1);
        due("400 bytes", x.count(6), 400);
        fine("bars" + " ".repeat(396));
        fine(" ".repeat(396) + "bars");
        fault(" ".repeat(400), 400);
        fault(" ".repeat(399) + "x", 399);
        fineOrders("pass" + " ".repeat(396));
        faultOfOrders("pass" + " ".repeat(395) + ";", 400);
    }

    private static void tokens() {
        sentence("TOKENS: longest rows of letters a .. z, of digits, single other bytes, any blanks (32) between.");
        fine("turns1+2;pays3if kind=4and(arm<5)or not[mood]>6");
        fine("  turns   many  ");
        fault("turns ma ny", 6);
        fault("turnsmany", 0);
        fault("turns many1", 10);
        fault("turns 1 2", 8);
        fault("turns 1many", 7);
        fine("turns 12");
        fault("turns 1 if1=1if", 13);
        fault("turns 1 if 1<=2", 13);
        fault("Turns 1", 0);
        fault("turns `", 6);
        fault("turns {", 6);
        fault("turns /", 6);
        fault("turns :", 6);
        fault("turns many{", 10);
        fault("turns many`", 10);
        fault("turns 1:", 7);
        fault("barsz", 0);
        fault("abars", 0);
        fault("bars z", 5);
        fault("bars bar", 5);
        fault("turns 09", -1);
        fault("turns 9z", 7);
        for (int other : new int[] {0, 9, 10, 13, 31, 33, 127, 128, 160, 255}) {
            fault("bars" + (char) other, 4);
            fault("turns 1" + (char) other + "+ 1", 7);
            fault("turns " + (char) other, 6);
            faultOfOrders("latch " + (char) other, 6);
        }
        fault("(".repeat(400), 0);
        fault("bars" + ";".repeat(396), 5);
        fault("bars if " + "(1=1)".repeat(78), 13);
        fault("1 ".repeat(200), 0);
    }

    private static void twelveClauses() {
        sentence("CLAUSE {\";\" CLAUSE}, 12 at most (FAULT at the 13th's first TOKEN).");
        String twelve = "bars;".repeat(11) + "bars";
        fine(twelve);
        fault(twelve + ";bars", 60);
        fault(twelve + " ; bars", 62);
        fault(twelve + ";", 60);
        fault(twelve + "; ", 61);
        fault(twelve + ";;", 60);
        fault(twelve + "bars", 55);
        fault("bars;".repeat(10) + "bars;turns", 60);
        String passes = "pass;".repeat(11) + "pass";
        due("twelve run", Checks.orders(new CountGates(), passes), 12);
        faultOfOrders(passes + ";pass", 60);
        fault("bars;;bars", 5);
        fault(";", 0);
    }

    private static void numbers() {
        sentence("NUMBER (to 1,000)");
        fine("turns 0");
        fine("turns 1000");
        fault("turns 1001", 6);
        fault("turns 1 + 1001", 10);
        fault("turns 9999999999999", 6);
        fault("turns 2147483648", 6);
        fault("turns 4294967297", 6);
        fault("turns 18446744073709551617", 6);
        fineOrders("latch 1000");
        faultOfOrders("latch 1001", 6);
        sum("1000 - 999", "1");
    }

    private static void fiftyParts() {
        sentence("50 PARTS that are NUMBERS and words (FAULT at the 51st)");
        String fifty = "turns 1" + "+1".repeat(49);
        fine(fifty);
        fault(fifty + "+1", 106);
        fault(fifty + "+many", 106);
        fault(fifty + "+[[1", 108);
        fault(fifty + "+1001", 106);
        fault(fifty + "+", 106);
        fault(fifty + ";bars if 2=2", 114);
        fault(fifty + ";pays 1", 111);
        fine("turns many" + "-kind".repeat(49));
        fault("turns many" + "-kind".repeat(50), 256);
        fine("turns [1" + "+1".repeat(48) + "]*many");
        fine("turns " + "1+".repeat(24) + "1 if 1" + "*1".repeat(23) + "=1");
        fault("turns " + "1+".repeat(24) + "1 if 1" + "*1".repeat(24) + "=1", 109);
        due("all of them count", told("turns 2" + "-1+1".repeat(24) + "+1", 5, 0), 3);
    }

    private static void eightBrackets() {
        sentence("8 brackets of both kinds within one another (FAULT at the 9th) at most");
        fine("turns " + "[".repeat(8) + "1" + "]".repeat(8));
        fault("turns " + "[".repeat(9) + "1" + "]".repeat(9), 14);
        fine("bars if " + "(".repeat(8) + "1=1" + ")".repeat(8));
        fault("bars if " + "(".repeat(9) + "1=1" + ")".repeat(9), 16);
        fine("bars if ((((" + "[[[[1]]]]=1" + "))))");
        fault("bars if ((((" + "[[[[[1]]]]]=1" + "))))", 16);
        fault("bars if ((((" + "1=[[[[[1]]]]]" + "))))", 18);
        fine("turns " + "[".repeat(8) + "1" + "]".repeat(8) + "+" + "[".repeat(8) + "1" + "]".repeat(8));
        fine("turns " + "[1]+".repeat(20) + "1");
        fineOrders("latch " + "[".repeat(8) + "1" + "]".repeat(8));
        faultOfOrders("latch " + "[".repeat(9) + "1" + "]".repeat(9), 14);
        fineOrders("go " + "[".repeat(8) + "1" + "]".repeat(8) + " by " + "[".repeat(8) + "1" + "]".repeat(8));
        faultOfOrders("go 1 by " + "[".repeat(9) + "1" + "]".repeat(9), 16);
        fineOrders("set " + "[".repeat(8) + "1" + "]".repeat(8) + " as " + "[".repeat(8) + "1" + "]".repeat(8));
        faultOfOrders("set 1 as " + "[".repeat(9) + "1" + "]".repeat(9), 17);
        fault("turns " + "[".repeat(394), 14);
        fault("bars if " + "not(".repeat(98), 8 + 4 * 8 + 3);
    }

    private static void firstFault() {
        sentence("FAULT: the first TOKEN that can't go on there (the end's: the TEXT's length).");
        fault("", 0);
        fault("turns", 5);
        fault("turns  ", 7);
        fault("bars if 1 = ", 12);
        fault("bars if 1 = 1 and", 17);
        fault("bars if (1 = 1", 14);
        fault("turns ) (", 6);
        fault("turns 1 ) (", 8);
        faultOfOrders("", 0);
        faultOfOrders("go", 2);
        faultOfOrders("go 1 by ", 8);
        faultOfOrders("set 1 as", 8);
        faultOfOrders("pass times", 10);
        faultOfOrders("pass if many", 12);
        faultOfOrders("pass if many ", 13);
    }

    private static void wholeGrammar() {
        sentence("PLAIN: \"not\" PLAIN | \"(\" TEST \")\" | SUM (\"<\" | \">\" | \"=\") SUM.");
        fine("bars if not not (not 1 = 1)");
        fault("bars if not", 11);
        fault("bars if ()", 9);
        fault("bars if (1)", 10);
        fault("bars if 1 + (1) = 2", 12);
        fault("bars if [1 = 1]", 11);
        fault("bars if 1 = 1 = 1", 14);
        due("many nots, even", told("bars if " + "not ".repeat(96) + "1=1", 5, 2), 1);
        due("many nots, odd", told("bars if " + "not ".repeat(97) + "1=1", 5, 2), 0);
        due("not so and so", told("bars if not 1 = 1 and 1 = 1", 5, 2), 0);
        due("not (not so) and so", told("bars if not (not 1 = 1) and 1 = 1", 5, 2), 1);
        due("not so or so", told("bars if not 1 = 1 or 1 = 1", 5, 2), 1);
        sentence("PART: NUMBER (to 1,000) | \"[\" SUM \"]\" | a word, as told.");
        fault("turns -1", 6);
        fault("turns [-1]", 7);
        fault("turns []", 7);
        fault("turns if", 6);
        fault("turns turns", 6);
        for (String other : new String[] {"done", "latest", "whole", "park", "turns", "pass", "if", "or", "times", "x"}) {
            fault("turns " + other, 6);
        }
        for (String other : new String[] {"kind", "hurry", "gate", "goer", "mood", "latch", "bars", "if", "or", "by", "x"}) {
            faultOfOrders("latch " + other, 6);
        }
    }

    private static void farthestSums() {
        sentence("Beyond 1,000,000,000 either way");
        sum(FARTHEST, FARTHEST);
        sum(FARTHEST + " - 1 + 1", FARTHEST);
        sum("0 - " + FARTHEST, "0 - " + FARTHEST);
        sum("1 - 1 - " + FARTHEST, "0 - " + FARTHEST);
        sum(FARTHEST + " - " + FARTHEST, "0");
        sum("[0 - 1000] * 1000 * 1000", "0 - " + FARTHEST);
        broken(FARTHEST + " + 1");
        broken("1 + " + FARTHEST);
        broken("0 - " + FARTHEST + " - 1");
        broken("[0 - " + FARTHEST + "] + [0 - 1]");
        broken("0 - [" + FARTHEST + " + 1]");
        broken(FARTHEST + " * 1000");
        broken(FARTHEST + " * [0 - 2]");
        broken(FARTHEST + " * 2 / 4");
        broken("[" + FARTHEST + "] * [" + FARTHEST + "] * 0");
        broken(FARTHEST + " + 1 - 1");
        broken("[" + FARTHEST + " + 1] % 7");
        due("each side at the farthest", told("bars if 0 - " + FARTHEST + " < " + FARTHEST, 5, 2), 1);
    }

    private static void dividedByNothing() {
        sentence("or divided by 0");
        broken("1 / 0");
        broken("0 / 0");
        broken("1 % 0");
        broken("0 % 0");
        broken("5 / [many - 5]");
        broken("5 % [many - 5]");
        broken("0 * [1 / 0]");
        sum("0 / 1", "0");
        sum("0 % 1", "0");
    }

    private static void cutTowardsNothing() {
        sentence("/ cut towards 0, % what is left then");
        sum("7 / 2", "3");
        sum("[0 - 7] / 2", "0 - 3");
        sum("7 / [0 - 2]", "0 - 3");
        sum("[0 - 7] / [0 - 2]", "3");
        sum("1 / 2", "0");
        sum("[0 - 1] / 2", "0");
        sum("7 % 2", "1");
        sum("[0 - 7] % 2", "0 - 1");
        sum("7 % [0 - 2]", "1");
        sum("[0 - 7] % [0 - 2]", "0 - 1");
        sum("[0 - 6] % 2", "0");
        sum("8 / 4 / 2", "1");
        sum("8 / [4 / 2]", "4");
        sum("7 * 3 / 2", "10");
        sum("7 / 2 * 2", "6");
        sum("7 - 3 - 2", "2");
        sum("2 + 3 * 4 % 5", "4");
    }

    private static void askedOnlyIfItMatters() {
        sentence("a SUM, a TEST is BROKEN (\"or\", \"and\" ask what stands behind only if it can still matter)");
        String bad = "1 / 0 = 1";
        due("so or broken", told("bars if 1 = 1 or " + bad, 5, 2), 1);
        due("not so or broken", told("bars if 1 = 2 or " + bad, 5, 2), 0);
        due("not (not so or broken)", told("bars if not (1 = 2 or " + bad + ")", 5, 2), 0);
        due("not (not so and broken)", told("bars if not (1 = 2 and " + bad + ")", 5, 2), 1);
        due("not (so and broken)", told("bars if not (1 = 1 and " + bad + ")", 5, 2), 0);
        due("broken or so", told("bars if " + bad + " or 1 = 1", 5, 2), 0);
        due("not (broken and not so)", told("bars if not (" + bad + " and 1 = 2)", 5, 2), 0);
        due("so or broken and broken", told("bars if 1 = 1 or " + bad + " and " + bad, 5, 2), 1);
        due("not so and broken or so", told("bars if 1 = 2 and " + bad + " or 1 = 1", 5, 2), 1);
        due("not so and broken and broken or so", told("bars if 1 = 2 and " + bad + " and " + bad + " or 1 = 1", 5, 2), 1);
        due("not so or so or broken", told("bars if 1 = 2 or 1 = 1 or " + bad, 5, 2), 1);
        due("(not so or broken) or so", told("bars if (1 = 2 or " + bad + ") or 1 = 1", 5, 2), 0);
    }

    private static void sixLaws() {
        sentence("LAWS, 6 at most");
        CountGates x = new CountGates();
        for (int law = 0; law < 6; law++) {
            due("law " + law, Checks.law(x, "turns 1"), law);
        }
        due("the seventh", Checks.law(x, "turns 1"), -5);
        due("six still", x.count(4), 6);
        due("the last in force", x.force(5), -1);
        due("no law 6", x.force(6), -2);
        due("the last still", x.count(12), 5);
    }

    private static void noLawInForce() {
        sentence("one is in FORCE (NONE at first: no CLAUSE)");
        CountGates x = parks();
        due("none", x.count(12), -1);
        Checks.law(x, "turns 7; pays 7; bars");
        due("none still, though there is one", x.count(12), -1);
        due("1 fewer", x.asks(0, 0, 6, 0), 5);
        due("pays 1", x.asks(0, 0, 6, 1), 1);
        due("not barred", x.asks(0, 0, 6, 2), 0);
        x.force(0);
        due("by the law", x.asks(0, 0, 6, 0), 7);
        x.force(-1);
        due("by none again", x.asks(0, 0, 6, 0), 5);
    }

    private static void words() {
        sentence("Words: \"kind\" | \"arm\" | \"many\" | \"hurry\" | \"gate\" | \"goer\" | \"day\" | \"mood\".");
        CountGates x = new CountGates();
        for (int i = 0; i < 10; i++) {
            x.gate(0, 0, 7, 9);
        }
        for (int i = 0; i < 5; i++) {
            x.goer(0, 19, 3);
        }
        x.terms(0, 999);
        x.terms(2, 9);
        Checks.force(x, "bars if kind = 7 and arm = 9 and many = 19 and hurry = 3 and gate = 9 and goer = 4 and day = 999 and mood = 9");
        due("each at its most", x.asks(4, 9, 19, 2), 1);
        due("one goer lower", x.asks(3, 9, 19, 2), 0);
        due("one gate lower", x.asks(4, 8, 19, 2), 0);
        due("one many lower", x.asks(4, 9, 18, 2), 0);
    }

    private static void unknownKind() {
        sentence("(of a gate of which nobody knows the KIND: gate, goer -1, hurry 0)");
        CountGates x = new CountGates();
        x.gate(0, 0, 0, 0);
        x.goer(0, 0, 3);
        Checks.force(x, "turns 19 if gate = 0 - 1 and goer = 0 - 1 and hurry = 0; turns kind if arm = 9 and many = 19");
        due("of a gate and a goer that are known", x.asks(0, 0, 5, 0), 4);
        x.seen(0, 5, 19);
        due("all kinds", x.kinds(), 255);
        x.seen(9, 19, 7);
        due("the last kind", x.kinds(), 128);
    }

    private static void holds() {
        sentence("A CLAUSE HOLDS, if its \"if\" (if it has one) is so, and neither that nor its SUM is BROKEN.");
        due("without an if", told("turns 12", 5, 0), 12);
        due("so", told("turns 12 if 1 = 1", 5, 0), 12);
        due("not so", told("turns 12 if 1 = 2", 5, 0), 4);
        due("broken if", told("turns 12 if 1 / 0 = 1", 5, 0), 4);
        due("broken sum", told("turns 1 / 0 if 1 = 1", 5, 0), 4);
        due("broken pays", told("pays 1 % 0; turns 3", 5, 1), 1);
        due("bars by a broken if", told("bars if 1 % 0 = 0", 5, 2), 0);
    }

    private static void turns() {
        sentence("One comes out of a GATE as MANY 0 .. 19 as the last \"turns\" that HOLDS tells (else the nearest), without as 1 fewer (0 at least)");
        due("0", told("turns 0", 5, 0), 0);
        due("19", told("turns 19", 5, 0), 19);
        due("20", told("turns 20", 5, 0), 19);
        due("the farthest", told("turns " + FARTHEST, 5, 0), 19);
        due("-1", told("turns 0 - 1", 5, 0), 0);
        due("the farthest below", told("turns 0 - " + FARTHEST, 5, 0), 0);
        due("the last", told("turns 3; turns 4; turns 5 if 1 = 2; pays 6", 5, 0), 4);
        due("without, 19", told("pays 5", 19, 0), 18);
        due("without, 1", told("pays 5", 1, 0), 0);
        due("without, 0", told("pays 5", 0, 0), 0);
    }

    private static void pays() {
        sentence("one PAYS 0 .. 9 as the last \"pays\" that HOLDS tells (else the nearest), 1 without");
        due("0", told("pays 0", 5, 1), 0);
        due("9", told("pays 9", 5, 1), 9);
        due("10", told("pays 10", 5, 1), 9);
        due("the farthest", told("pays " + FARTHEST, 5, 1), 9);
        due("-1", told("pays 0 - 1", 5, 1), 0);
        due("the farthest below", told("pays 0 - " + FARTHEST, 5, 1), 0);
        due("the last", told("pays 3; pays 4; pays 5 if 1 = 2; turns 6", 5, 1), 4);
        due("without", told("turns 5", 5, 1), 1);
    }

    private static void bars() {
        sentence("one is BARRED from a GATE, if \"bars\" HOLDS");
        due("the first of two", told("bars if 1 = 1; bars if 1 = 2", 5, 2), 1);
        due("the last of two", told("bars if 1 = 2; bars if 1 = 1", 5, 2), 1);
        due("neither", told("bars if 1 = 2; bars if 1 = 3", 5, 2), 0);
        due("the first of twelve", told("bars" + ";bars if 1=2".repeat(11), 5, 2), 1);
        due("the last of twelve", told("bars if 1=2;".repeat(11) + "bars", 5, 2), 1);
        due("none", told("turns 1", 5, 2), 0);
    }

    private static void times() {
        sentence("TIMES: a NUMBER 1 .. 20.");
        fineOrders("pass times 1");
        fineOrders("pass times 20");
        faultOfOrders("pass times 0", 11);
        faultOfOrders("pass times 21", 11);
        faultOfOrders("pass times 1000", 11);
        faultOfOrders("pass times 4294967297", 11);
        faultOfOrders("pass times day", 11);
        faultOfOrders("pass times [1]", 11);
        faultOfOrders("pass times if 1 = 1", 11);
        fault("bars times 2", 5);
    }

    private static void numberedWords() {
        sentence("(P: a NUMBER 0 .. 4, G: 0 .. 9)");
        for (String word : new String[] {"many", "park"}) {
            fineOrders("latch " + word + " 0");
            fineOrders("latch " + word + " 4");
            faultOfOrders("latch " + word + " 5", 11);
            faultOfOrders("latch " + word + " 4294967296", 11);
            faultOfOrders("latch " + word, 10);
            faultOfOrders("latch " + word + " day", 11);
        }
        fineOrders("latch arm 0");
        fineOrders("latch arm 9");
        faultOfOrders("latch arm 10", 10);
        faultOfOrders("latch arm", 9);
        faultOfOrders("latch arm [0]", 10);
        faultOfOrders("latch day 0", 10);
    }

    private static void partsOfOrders() {
        sentence("P, G, TIMES aside, NUMBERS and words count as PARTS.");
        String fifty = "pass times 20 if many 0" + "+park 1".repeat(24) + "+arm 2".repeat(24) + "=1";
        fineOrders(fifty);
        faultOfOrders(fifty + "+1", fifty.length() + 1);
        faultOfOrders(fifty + "+arm 2", fifty.length() + 1);
        faultOfOrders(fifty + ";pass times 20;latch 1", fifty.length() + 21);
        fineOrders(fifty + ";pass times 20");
    }

    private static void asOftenAsTimes() {
        sentence("Run CLAUSE by CLAUSE, each as often as TIMES tell (once without)");
        CountGates x = parks();
        due("once", Checks.orders(x, "pass"), 1);
        due("once, told", Checks.orders(x, "pass times 1"), 1);
        due("twenty", Checks.orders(x, "pass times 20"), 20);
        due("days", x.count(13), 22);
        due("twelve times twenty", Checks.orders(x, "pass times 20" + ";pass times 20".repeat(11)), 240);
        due("days then", x.count(13), 262);
        due("one behind the other", Checks.orders(x, "set 0 as 1;set 0 as 2;set 0 as arm 0+1"), 3);
        due("arm", x.at(0, 3), 3);
    }

    private static void asksEachTime() {
        sentence("each time its \"if\" is asked (not run, if it is not so or BROKEN)");
        CountGates x = parks();
        due("until it is not so", Checks.orders(x, "pass times 20 if day < 7"), 7);
        due("every other time", Checks.orders(x, "go 0 by 2 times 3 if many 0 > 4"), 2);
        due("broken from then on", Checks.orders(x, "pass times 20 if 1 / [10 - day] > 0 - 5"), 3);
        due("none run", Checks.orders(x, "pass times 20 if 1 = 2"), 0);
        due("that can be", x.status(), 0);
        due("days", x.count(13), 10);
    }

    private static void sumsFromTheLeft() {
        sentence("then its SUMS from the left");
        CountGates x = parks();
        due("not asked, if not run", Checks.orders(x, "go 1/0 by 1/0 if 1=2;set 1/0 as 1/0 if 1=2;latch 1/0 if 1/0=1"), 0);
        due("the first is broken", Checks.orders(x, "go 1/0 by 0"), -3);
        due("the second is broken", Checks.orders(x, "go 0 by 1/0"), -3);
        due("an arm is broken", Checks.orders(x, "set 0 as 1/0"), -3);
        due("a latch is broken", Checks.orders(x, "latch 1/0"), -3);
        due("anew each time", Checks.orders(x, "set done as 9-done times 3"), 3);
        due("the arms", x.at(0, 3) * 100 + x.at(1, 3) * 10 + x.at(2, 3), 987);
    }

    private static void doneLatestWhole() {
        sentence("done: how many were run in this TEXT, latest: what the latest go in it told (-1: none), whole: how many GOERS are 1");
        CountGates x = parks();
        due("done 0 at first", Checks.orders(x, "pass if done = 0; pass if done = 1; pass if done = 1"), 2);
        due("done 0 anew", Checks.orders(x, "pass if done = 0"), 1);
        due("latest -1 at first", Checks.orders(x, "pass if latest = 0 - 1"), 1);
        due("latest as told", Checks.orders(x, "go 0 by 2; pass; pass if latest = 5; latch 1; latch 1 if latest = 5"), 5);
        due("latest -1 anew", Checks.orders(x, "pass if latest = 0 - 1"), 1);
        due("one is 1", Checks.orders(x, "pass if whole = 1"), 1);
        due("none is 1", Checks.orders(x, "go 1 by 1; pass if whole = 0 and latest = 0"), 2);
        due("both are 1", bothWhole(), 1);
    }

    private static int bothWhole() {
        CountGates x = new CountGates();
        for (int i = 0; i < 5; i++) {
            x.goer(0, 1, 0);
        }
        return Checks.orders(x, "pass if whole = 5");
    }

    private static void withoutSuch() {
        sentence("many, park, arm: -1 without such a GOER, GATE");
        CountGates x = parks();
        due("the last goer", Checks.orders(x, "pass if many 1 = 1 and park 1 = 1"), 1);
        due("no goer", Checks.orders(x, "pass if many 2 = 0 - 1 and park 2 = 0 - 1 and many 4 = 0 - 1"), 1);
        due("the last gate", Checks.orders(x, "pass if arm 2 = 5"), 1);
        due("no gate", Checks.orders(x, "pass if arm 3 = 0 - 1 and arm 9 = 0 - 1"), 1);
        CountGates y = new CountGates();
        y.gate(0, 0, 0, 0);
        y.goer(0, 0, 0);
        y.image(0);
        y.gate(0, 0, 0, 7);
        y.goer(0, 1, 0);
        y.back(0);
        due("gone since", Checks.orders(y, "pass if many 1 = 0 - 1 and park 1 = 0 - 1 and arm 1 = 0 - 1 and whole = 0"), 1);
    }

    private static void whollyOrNotAtAll() {
        sentence("One that can't be (a BROKEN SUM, as go(), latch(), set(), pass() are REFUSED) ends it: all is as it was ahead of it.");
        String ahead = "go 0 by 0;go 0 by 1;latch 2;set 1 as 9;pass times 20;";
        stops(ahead + "go 5 by 0");
        stops(ahead + "go 0 by 9");
        stops(ahead + "go 0 by 1");
        stops(ahead + "go 0 by 2");
        stops(ahead + "latch 3");
        stops(ahead + "latch 0 - 1");
        stops(ahead + "set 1 as 9");
        stops(ahead + "set 1 as 10");
        stops(ahead + "set 0 as 0 - 1");
        stops(ahead + "set 3 as 1");
        stops(ahead + "latch 1 / 0");
        stops(ahead + "pass times 20 if 1 = 2;latch " + FARTHEST + " + 1", 6);
        stops(ahead + "latch 9;pass");
        CountGates x = parks();
        x.terms(0, 998);
        due("a day too many", Checks.orders(x, "latch 0;pass times 2"), -3);
        due("stopped", x.stopped(), 1);
        due("open", x.at(0, 4), 1);
        due("998", x.count(13), 998);
    }

    private static void stops(String orders) {
        stops(orders, 5);
    }

    /** Sixteen steps are kept ahead, the first of them a go. */
    private static void stops(String orders, int clause) {
        CountGates x = parks();
        x.go(0, 2);
        for (int i = 0; i < 15; i++) {
            x.pass();
        }
        String was = Snapshot.of(x);
        due(orders, Checks.orders(x, orders), -3);
        due("stopped: " + orders, x.stopped(), clause);
        due("all as it was: " + orders, Snapshot.of(x).equals(was) ? 1 : 0, 1);
        for (int i = 0; i < 15; i++) {
            due("undo a pass", x.undo(), 3);
        }
        due("undo the go", x.undo(), 0);
        due("undone", x.of(0, 1), 6);
    }
}
