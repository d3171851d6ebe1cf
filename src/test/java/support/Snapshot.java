/** All that can be seen of an object, but for the tape and for what calls were refused by. */
final class Snapshot {
    private static final int MOST_GOERS = 5;

    private Snapshot() {
    }

    /** Some 120 calls at the most. */
    static String of(CountGates x) {
        StringBuilder seen = new StringBuilder();
        for (int what : new int[] {0, 1, 2, 3, 4, 5, 12, 13, 14, 15}) {
            add(seen, "count " + what, x.count(what));
        }
        int gates = x.count(0);
        int goers = x.count(1);
        for (int gate = 0; gate < gates; gate++) {
            for (int what = 0; what < 5; what++) {
                add(seen, "at " + gate + " " + what, x.at(gate, what));
            }
        }
        for (int goer = 0; goer < goers; goer++) {
            for (int what = 0; what < 5; what++) {
                add(seen, "of " + goer + " " + what, x.of(goer, what));
            }
            for (int what = 0; what < 3; what++) {
                add(seen, "asks " + goer + " " + what, x.asks(goer, 0, 7, what));
            }
            add(seen, "reach " + goer, x.reach(goer));
        }
        for (int goer = 0; goer < MOST_GOERS; goer++) {
            for (int what = 0; what < 3; what++) {
                add(seen, "drawn " + goer + " " + what, x.drawn(goer, what));
            }
        }
        add(seen, "kinds", x.kinds());
        add(seen, "rust", x.rust());
        return seen.toString();
    }

    private static void add(StringBuilder seen, String call, int answer) {
        seen.append(call).append(" = ").append(answer).append('\n');
    }
}
