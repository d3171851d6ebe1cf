import java.util.ArrayList;
import java.util.List;
import java.util.Map;

/** A text as trees; a fault and what is broken are thrown. */
final class OracleText {
    static final class Fault extends RuntimeException {
        final int place;

        Fault(int place) {
            this.place = place;
        }
    }

    static final class Broken extends RuntimeException {
    }

    /** A sum, or a test as 1 or 0. */
    interface Tree {
        long value(Map<String, Integer> words);
    }

    static final class Clause {
        String verb;
        Tree first, second, test;
        int times = 1;

        boolean so(Map<String, Integer> words) {
            try {
                return test == null || test.value(words) == 1;
            } catch (Broken e) {
                return false;
            }
        }

        /** Null if it does not hold; 0 of one without a sum. */
        Long told(Map<String, Integer> words) {
            try {
                return !so(words) ? null : first == null ? Long.valueOf(0) : Long.valueOf(first.value(words));
            } catch (Broken e) {
                return null;
            }
        }
    }

    final List<Clause> clauses = new ArrayList<>();
    private final List<String> tokens = new ArrayList<>();
    private final List<Integer> places = new ArrayList<>();
    private final boolean orders;
    private int at = 0, parts = 0, open = 0;

    OracleText(byte[] bytes, boolean orders) {
        this.orders = orders;
        StringBuilder s = new StringBuilder();
        for (byte b : bytes) s.append((char) (b & 255));
        java.util.regex.Matcher m = java.util.regex.Pattern.compile("[a-z]+|[0-9]+|[^ ]", java.util.regex.Pattern.DOTALL).matcher(s);
        while (m.find()) {
            tokens.add(m.group());
            places.add(m.start());
        }
        tokens.add("");
        places.add(bytes.length);
        do {
            if (clauses.size() == 12) throw fault();
            clauses.add(clause());
        } while (skip(";"));
        if (!here().isEmpty()) throw fault();
    }

    private String here() {
        return tokens.get(at);
    }

    private Fault fault() {
        return new Fault(places.get(at));
    }

    private boolean skip(String token) {
        if (!here().equals(token)) return false;
        at++;
        return true;
    }

    private void need(String token) {
        if (!skip(token)) throw fault();
    }

    private Clause clause() {
        Clause c = new Clause();
        c.verb = here();
        List<String> verbs = orders ? List.of("go", "latch", "set", "pass") : List.of("turns", "pays", "bars");
        if (!verbs.contains(c.verb)) throw fault();
        at++;
        if (!c.verb.equals("bars") && !c.verb.equals("pass")) c.first = sum();
        if (c.verb.equals("go")) {
            need("by");
            c.second = sum();
        }
        if (c.verb.equals("set")) {
            need("as");
            c.second = sum();
        }
        if (orders && skip("times")) c.times = number(1, 20);
        if (skip("if")) c.test = test();
        return c;
    }

    private int number(int least, int most) {
        if (!here().matches("[0-9]+")) throw fault();
        java.math.BigInteger v = new java.math.BigInteger(here());
        if (v.compareTo(java.math.BigInteger.valueOf(least)) < 0 || v.compareTo(java.math.BigInteger.valueOf(most)) > 0) throw fault();
        at++;
        return v.intValue();
    }

    private Tree test() {
        Tree left = both();
        while (skip("or")) {
            Tree l = left, r = both();
            left = w -> l.value(w) == 1 ? 1 : r.value(w);
        }
        return left;
    }

    private Tree both() {
        Tree left = plain();
        while (skip("and")) {
            Tree l = left, r = plain();
            left = w -> l.value(w) == 0 ? 0 : r.value(w);
        }
        return left;
    }

    private void opening(String bracket) {
        if (open == 8) throw fault();
        open++;
        need(bracket);
    }

    private void closing(String bracket) {
        need(bracket);
        open--;
    }

    private Tree plain() {
        if (skip("not")) {
            Tree t = plain();
            return w -> 1 - t.value(w);
        }
        if (here().equals("(")) {
            opening("(");
            Tree t = test();
            closing(")");
            return t;
        }
        Tree l = sum();
        String sign = here();
        if (!List.of("<", ">", "=").contains(sign)) throw fault();
        at++;
        Tree r = sum();
        return w -> {
            int c = Long.compare(l.value(w), r.value(w));
            return c < 0 && sign.equals("<") || c > 0 && sign.equals(">") || c == 0 && sign.equals("=") ? 1 : 0;
        };
    }

    private Tree sum() {
        Tree left = term();
        while (List.of("+", "-").contains(here())) left = join(left, tokens.get(at++), term());
        return left;
    }

    private Tree term() {
        Tree left = part();
        while (List.of("*", "/", "%").contains(here())) left = join(left, tokens.get(at++), part());
        return left;
    }

    private static Tree join(Tree l, String sign, Tree r) {
        return w -> {
            long a = l.value(w), b = r.value(w);
            if (b == 0 && (sign.equals("/") || sign.equals("%"))) throw new Broken();
            long v = sign.equals("+") ? a + b : sign.equals("-") ? a - b : sign.equals("*") ? a * b
                    : sign.equals("/") ? a / b : a - a / b * b;
            if (Math.abs(v) > 1_000_000_000L) throw new Broken();
            return v;
        };
    }

    private Tree part() {
        if (here().equals("[")) {
            opening("[");
            Tree t = sum();
            closing("]");
            return t;
        }
        if (++parts > 50) throw fault();
        if (here().matches("[0-9]+")) {
            int v = number(0, 1000);
            return w -> v;
        }
        String word = here();
        List<String> words = orders ? List.of("day", "done", "latest", "whole", "many", "park", "arm")
                : List.of("kind", "arm", "many", "hurry", "gate", "goer", "day", "mood");
        if (!words.contains(word)) throw fault();
        at++;
        if (orders && List.of("many", "park", "arm").contains(word)) {
            String numbered = word + " " + number(0, word.equals("arm") ? 9 : 4);
            return w -> w.get(numbered);
        }
        return w -> w.get(word);
    }
}
