import java.util.Random;

/** Texts by chance, most of them right, some of them spoilt. */
final class Texts {
    private final Random random;
    private boolean orders;

    Texts(Random random) {
        this.random = random;
    }

    private boolean oneIn(int n) {
        return random.nextInt(n) == 0;
    }

    private String pick(String... from) {
        return from[random.nextInt(from.length)];
    }

    String law() {
        orders = false;
        return spoilt(text(1 + random.nextInt(oneIn(8) ? 14 : 5)));
    }

    String orders() {
        orders = true;
        return spoilt(text(1 + random.nextInt(oneIn(8) ? 14 : 4)));
    }

    /** A law by which one goes on being another many. */
    String livelyLaw() {
        StringBuilder s = new StringBuilder("turns " + livelySum());
        for (int i = random.nextInt(4); i > 0; i--) {
            String test = livelySum() + "%" + (2 + random.nextInt(4)) + pick("=", "<", ">") + pick("1", "arm%3", "kind%2", "hurry", "goer");
            s.append(";").append(pick("bars", "turns " + livelySum(), "pays " + livelySum(), "pays " + livelySum()));
            s.append(" if ").append(test).append(oneIn(3) ? pick(" and ", " or ") + "arm>" + random.nextInt(8) : "");
        }
        return s.toString();
    }

    private String livelySum() {
        int n = 1 + random.nextInt(7);
        return pick("many+arm", "arm*2", "many+kind-arm", "[many*" + n + "+arm+kind]%20", "[many+" + n + "]%20",
                "[many+gate+hurry]%20", "many+arm%3-goer", "19-many+day%3", "many/2+mood+kind", "many");
    }

    /** Orders by which goer 0 mostly goes through a gate. */
    String livelyOrders(int gate) {
        String go = "go 0 by " + Math.max(0, Math.min(gate, 1000));
        return pick(go, go + ";pass;set 0 as [arm 0+1]%10", go + " times 20 if park 0=" + random.nextInt(3) + " and done<4",
                go + ";go 0 by latest/3", "pass times 20 if day<" + random.nextInt(30) + ";" + go + " if whole<2;latch 1;latch 1");
    }

    private String text(int clauses) {
        if (oneIn(12)) {
            return edge();
        }
        StringBuilder s = new StringBuilder();
        for (int i = 0; i < clauses; i++) {
            s.append(i == 0 ? "" : pick(";", " ; ", "; ")).append(clause());
        }
        return s.toString();
    }

    private String clause() {
        String s;
        if (orders) {
            switch (random.nextInt(5)) {
                case 0: s = "pass"; break;
                case 1: s = "latch " + few(10); break;
                case 2: s = "set " + few(10) + " as " + few(10); break;
                default: s = "go " + few(5) + " by " + few(10); break;
            }
            s += oneIn(4) ? " times " + random.nextInt(oneIn(4) ? 23 : 4) : "";
        } else {
            switch (random.nextInt(5)) {
                case 0: s = "bars"; break;
                case 1: s = "pays " + sum(0); break;
                default: s = "turns " + sum(0); break;
            }
        }
        return oneIn(3) || s.equals("bars") && !oneIn(20) ? s + " if " + test(0) : s;
    }

    /** A sum that is often a gate or a goer. */
    private String few(int limit) {
        return oneIn(4) ? sum(1) : "" + random.nextInt(oneIn(6) ? limit + 1 : Math.min(limit, 4));
    }

    private String test(int depth) {
        StringBuilder s = new StringBuilder(plain(depth));
        while (oneIn(3)) {
            s.append(pick(" or ", " and ", " and not ")).append(plain(depth));
        }
        return s.toString();
    }

    private String plain(int depth) {
        if (oneIn(6)) {
            return "not " + plain(depth);
        }
        if (depth < 3 && oneIn(5)) {
            return pick("(", " ( ") + test(depth + 1) + ")";
        }
        return sum(depth + 1) + pick("<", ">", "=", " = ") + sum(depth + 1);
    }

    private String sum(int depth) {
        StringBuilder s = new StringBuilder(part(depth));
        while (oneIn(2)) {
            s.append(pick("+", "-", "*", "/", "%", " + ", " * ")).append(part(depth));
        }
        return s.toString();
    }

    private String part(int depth) {
        if (depth < 3 && oneIn(6)) {
            return "[" + sum(depth + 1) + "]";
        }
        if (oneIn(2)) {
            return "" + random.nextInt(oneIn(5) ? 1002 : oneIn(2) ? 20 : 4);
        }
        if (!orders) {
            return pick("kind", "arm", "many", "many", "hurry", "gate", "goer", "day", "mood");
        }
        return pick("day", "done", "latest", "whole", "many " + random.nextInt(5), "park " + random.nextInt(5),
                "arm " + random.nextInt(10));
    }

    /** Many parts, many brackets, many "not", or nearly nothing. */
    private String edge() {
        String verb = orders ? "latch " : "turns ";
        switch (random.nextInt(6)) {
            case 0: return verb + "1" + "+0".repeat(48 + random.nextInt(3));
            case 1: {
                int n = 7 + random.nextInt(3);
                return verb + "[".repeat(n) + "1" + "]".repeat(n);
            }
            case 2: {
                int a = 3 + random.nextInt(4), b = 3 + random.nextInt(3);
                return verb + "1 if " + "(".repeat(a) + "[".repeat(b) + "1" + "]".repeat(b) + "=1" + ")".repeat(a);
            }
            case 3: return verb + "1 if " + "not ".repeat(random.nextInt(80)) + "1=" + random.nextInt(2);
            case 4: return " ".repeat(random.nextInt(4));
            default: return verb + "1000*1000*1000" + pick("", "+1", "*1", "-1", "+0*2", "/0", "%7", "*2/2") + ";" + verb + "2";
        }
    }

    private String spoilt(String text) {
        String s = text;
        if (oneIn(5) && !s.isEmpty()) {
            int i = random.nextInt(s.length());
            int j = Math.min(s.length(), i + random.nextInt(3));
            String put = pick("", " ", ";", "(", ")", "[", "]", "if", " or ", "9", "x", "\0", "\u00e9", "A", "=", "+", " many ", "times 2");
            s = s.substring(0, i) + put + s.substring(j);
        }
        return s.length() > 400 ? s.substring(0, 400) : s;
    }
}
