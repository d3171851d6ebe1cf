/** Promises 32 to 36, 38 and 39: what was seen, how likely few are bitten, days by draws. */
public final class GuessTest {
    private static final Checks CHECKS = new Checks("GuessTest");

    public static void main(String[] args) {
        seenAndForget();
        kinds();
        ask();
        askWords();
        few();
        days();
        daysEnd();
        drawn();
        CHECKS.finish();
    }

    private static void due(String call, long got, long want) {
        CHECKS.due(call, got, want);
    }

    private static void seenAndForget() {
        CountGates x = new CountGates();
        int[][] bad = {{-1, 0, 0}, {10, 0, 0}, {0, -1, 0}, {0, 20, 0}, {0, 0, -1}, {0, 0, 20}};
        for (int[] b : bad) {
            due("bad seen", x.seen(b[0], b[1], b[2]), -1);
        }
        due("forget nothing", x.forget(), 0);
        for (int i = 1; i <= 6; i++) {
            due("seen " + i, x.seen(9, 19, 18), i);
        }
        due("no room", x.seen(0, 0, 0), -5);
        due("bad, no room", x.seen(10, 0, 0), -1);
        due("six", x.count(3), 6);
        due("kinds", x.kinds(), 255);
        due("forget six", x.forget(), 6);
        due("none", x.count(3), 0);
        due("seen anew", x.seen(0, 0, 5), 1);
        due("no kinds", x.kinds(), 0);
    }

    private static void kinds() {
        CountGates x = new CountGates();
        x.pass();
        Checks.force(x, "turns many + kind % 3; turns arm if kind = 7; bars if kind = 1 and many > 9");
        x.seen(6, 5, 6);
        due("kinds 1, 4, 7", x.kinds(), 2 | 16 | 128);
        x.seen(3, 8, 9);
        due("kinds 1, 4", x.kinds(), 2 | 16);
        x.seen(0, 10, 11);
        due("kind 1 would be barred", x.kinds(), 16);
        x.force(-1);
        due("without a law", x.kinds(), 0);
        due("seen can't be undone", x.undo(), 3);
        due("seen stays", x.count(3), 3);
    }

    private static void ask() {
        CountGates x = new CountGates();
        due("what 2", x.ask(0, 2), -1);
        due("what -1", x.ask(0, -1), -1);
        due("arm 10", x.ask(10, 0), -1);
        due("arm -1", x.ask(-1, 0), -1);
        due("all alike", x.ask(9, 1), 8);
        Checks.force(x, "turns 0; turns kind if many > 19");
        due("none beyond 19", x.ask(0, 1), 8);
        Checks.force(x, "turns 0; turns kind / 4 + 1 if many = 3; turns kind % 4 + arm if many = 7; bars if many = 12 and kind > 2");
        due("two alike at the most", x.ask(0, 1), 2);
        due("as 7", x.ask(0, 0), 7);
        due("by an arm, three each", x.ask(9, 0), 7);
        x.seen(0, 3, 1);
        due("kinds 0 .. 3", x.kinds(), 15);
        due("one alike", x.ask(1, 1), 1);
        x.forget();
        Checks.force(x, "turns many; turns 5 if many = 2 and kind < 3; bars if many = 2 and kind > 4");
        due("three, two, three barred", x.ask(0, 1), 3);
        due("as 2", x.ask(0, 0), 2);
        Checks.force(x, "turns many; bars if many > 2; turns 0 if kind = 4");
        due("seven alike", x.ask(0, 1), 7);
        due("as 1, as 0 turns alike", x.ask(0, 0), 1);
        x.forget();
        Checks.force(x, "turns kind");
        x.seen(0, 5, 0);
        due("kind 0 alone", x.ask(0, 1), 1);
        x.seen(0, 5, 5);
        due("no kinds", x.ask(0, 0), -1);
        due("no kinds left", x.ask(0, 1), -1);
    }

    private static void askWords() {
        CountGates x = new CountGates();
        x.gate(0, 0, 0, 0);
        x.goer(0, 0, 3);
        x.terms(0, 12);
        x.terms(2, 4);
        Checks.force(x, "turns 10 + gate + goer * 2 + hurry * 5");
        x.seen(0, 0, 7);
        due("gate and goer -1, hurry 0", x.kinds(), 255);
        x.forget();
        Checks.force(x, "turns day - mood + kind");
        x.seen(0, 0, 10);
        due("day and mood as now", x.kinds(), 4);
    }

    private static void few() {
        CountGates x = new CountGates();
        due("of none", x.few(1, 0), 1_000_000_000_000L);
        due("none of two", x.few(1, 2), 810_000_000_000L);
        due("at most two of three", x.few(3, 3), 999_000_000_000L);
        due("all of three", x.few(4, 3), 1_000_000_000_000L);
        due("twenty", x.few(20, 19), fewByHand(20, 19, 1));
        due("many", x.few(7, 99), fewByHand(7, 99, 1));
        due("k 0", x.few(0, 1), -1);
        due("k 21", x.few(21, 1), -1);
        due("n -1", x.few(1, -1), -1);
        due("n 100", x.few(1, 100), -1);
        x.terms(1, 0);
        due("never bitten", x.few(1, 99), 1_000_000_000_000L);
        x.terms(1, 10);
        due("always bitten", x.few(20, 20), 0);
        due("always bitten, one fewer", x.few(20, 19), 1_000_000_000_000L);
        x.terms(1, 3);
        due("cut, 13 times seven tenths", x.few(1, 13), 9_688_901_040L);
        due("cut, once more", x.few(1, 14), 6_782_230_728L);
        due("one or none of 14", x.few(2, 14), fewByHand(2, 14, 3));
    }

    /** By recursion from the last goer: so many are bitten among n. */
    private static long fewByHand(int k, int n, int bites) {
        long all = 0;
        for (int b = 0; b < k; b++) {
            all += bitten(b, n, bites, new Long[100][100]);
        }
        return all;
    }

    private static long bitten(int b, int n, int bites, Long[][] known) {
        if (b < 0 || b > n) {
            return 0;
        }
        if (n == 0) {
            return 1_000_000_000_000L;
        }
        if (known[b][n] == null) {
            known[b][n] = bitten(b, n - 1, bites, known) * (10 - bites) / 10 + bitten(b - 1, n - 1, bites, known) * bites / 10;
        }
        return known[b][n];
    }

    private static void days() {
        CountGates x = new CountGates();
        due("no goers", x.days(0, 1), -3);
        x.goer(0, 19, 0);
        due("no gates", x.days(0, 1), -3);
        due("seed -1, no gates", x.days(-1, 1), -1);
        x.gate(0, 0, 0, 0);
        due("seed 1000001", x.days(1_000_001, 1), -1);
        due("n 0", x.days(0, 0), -1);
        due("n 61", x.days(0, 61), -1);
        due("seed 1000000", x.days(1_000_000, 60), 60);
        due("as none", x.drawn(0, 1), 0);
        due("paid sixty", x.drawn(0, 2), 60);
        due("on paper", x.of(0, 3), 0);
        due("no day", x.count(13), 0);
        due("nothing to undo", x.count(5), 0);
        // from seed 7: 20066, goer 0 of 2, then 145075, gate 1 of 2
        CountGates y = new CountGates();
        y.gate(0, 1, 0, 0);
        y.gate(0, 2, 0, 0);
        y.goer(0, 9, 0);
        y.goer(0, 5, 0);
        due("draws of 7", y.days(7, 1), 1);
        due("goer 0 went", y.drawn(0, 0), 2);
        due("as 8", y.drawn(0, 1), 8);
        due("goer 1 did not", y.drawn(1, 0), 0);
    }

    private static void daysEnd() {
        CountGates x = new CountGates();
        x.gate(0, 0, 0, 0);
        x.goer(0, 19, 0);
        Checks.force(x, "turns day % 20; pays 2; bars if day = 997");
        x.terms(0, 996);
        due("days 996 and 998", x.days(5, 60), 2);
        due("turned on day 998", x.drawn(0, 1), 18);
        due("paid", x.drawn(0, 2), 4);
        x.terms(0, 999);
        due("at the last day none", x.days(5, 60), 0);
        due("kept as the latest", x.drawn(0, 1), 19);
    }

    private static void drawn() {
        CountGates x = new CountGates();
        x.gate(0, 0, 0, 0);
        x.goer(3, 7, 0);
        due("ahead of any", x.drawn(0, 0), -1);
        x.days(0, 5);
        due("park", x.drawn(0, 0), 3);
        due("many", x.drawn(0, 1), 7);
        due("paid", x.drawn(0, 2), 0);
        due("what 3", x.drawn(0, 3), -1);
        due("what -1", x.drawn(0, -1), -1);
        due("goer 1", x.drawn(1, 0), -1);
        due("goer -1", x.drawn(-1, 0), -1);
        x.goer(0, 1, 0);
        due("one who came since", x.drawn(1, 0), -1);
        x.days(0, 61);
        due("refused days are not the latest", x.drawn(1, 0), -1);
    }
}
