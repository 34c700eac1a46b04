import java.util.ArrayDeque;
import java.util.ArrayList;
import java.util.Deque;
import java.util.List;
import java.util.TreeSet;

/**
 * Reads a land's text in another way than the program does: truths are looked
 * at for faults by a stack of what is open, and for what they say by cutting
 * them at the joint that binds least.
 */
final class PlainText {
    static final class World {
        int a;
        int b;
        int c;
        int weight = 1;
        boolean guilty;
    }

    private record Token(String text, int at, boolean bad) {
        boolean isNumber() {
            return !bad && !text.isEmpty() && Character.isDigit(text.charAt(0));
        }

        int value() {
            return Integer.parseInt(text);
        }
    }

    private static final class Fault extends RuntimeException {
        private static final long serialVersionUID = 1L;
        final int kind;
        final int at;

        Fault(int kind, int at) {
            super("fault", null, false, false);
            this.kind = kind;
            this.at = at;
        }
    }

    final List<World> worlds = new ArrayList<>();
    final List<List<String>> truths = new ArrayList<>();
    final List<TreeSet<Integer>> told = new ArrayList<>();
    final TreeSet<Integer> roads = new TreeSet<>();
    final TreeSet<Integer> hints = new TreeSet<>();
    int truth = 0;
    int lines = 0;
    int fault = 0;
    int place = -1;

    private final List<Token> tokens = new ArrayList<>();
    private int at = 0;

    PlainText(String text) {
        cut(text);
        try {
            while (!now().text.isEmpty()) {
                line();
                lines++;
            }
        } catch (Fault f) {
            fault = f.kind;
            place = f.at;
        }
    }

    private void cut(String text) {
        int i = 0;
        while (i < text.length()) {
            char c = text.charAt(i);
            if (c == 10 || c == 32) {
                i++;
                continue;
            }
            int j = i + 1;
            boolean letter = c >= 'a' && c <= 'z';
            boolean digit = c >= '0' && c <= '9';
            while (j < text.length() && (letter && text.charAt(j) >= 'a' && text.charAt(j) <= 'z'
                    || digit && text.charAt(j) >= '0' && text.charAt(j) <= '9')) {
                j++;
            }
            boolean bad = digit ? j - i > 3 : !letter && ";:+-*()[]=<>".indexOf(c) < 0;
            tokens.add(new Token(text.substring(i, j), i, bad));
            i = j;
        }
        tokens.add(new Token("", text.length(), false));
    }

    private Token now() {
        return tokens.get(at);
    }

    private Fault cannot() {
        return new Fault(now().bad ? 1 : 2, now().at);
    }

    private void need(String word) {
        if (now().bad || !now().text.equals(word)) {
            throw cannot();
        }
        at++;
    }

    private int number(int least, int most, int not) {
        if (!now().isNumber()) {
            throw cannot();
        }
        int v = now().value();
        if (v < least || v > most || v == not) {
            throw new Fault(3, now().at);
        }
        at++;
        return v;
    }

    private boolean maybe(String word) {
        if (!now().bad && now().text.equals(word)) {
            at++;
            return true;
        }
        return false;
    }

    private void atMost(int has, int most) {
        if (has == most) {
            throw new Fault(4, now().at);
        }
        at++;
    }

    private void line() {
        if (now().bad) {
            throw cannot();
        }
        switch (now().text) {
            case "world" -> world();
            case "fact" -> {
                atMost(truths.size(), 8);
                need(":");
                truths.add(truth());
            }
            case "person" -> person();
            case "road" -> {
                at++;
                int p = number(0, told.size() - 1, -1);
                int q = number(0, told.size() - 1, p);
                roads.add(10 * Math.min(p, q) + Math.max(p, q));
            }
            case "hint" -> {
                at++;
                int f = number(0, truths.size() - 1, -1);
                hints.add(10 * f + number(0, truths.size() - 1, -1));
            }
            case "true" -> {
                at++;
                truth = number(0, worlds.size() - 1, -1);
            }
            default -> throw cannot();
        }
        need(";");
    }

    private void world() {
        atMost(worlds.size(), 16);
        World w = new World();
        w.a = number(0, 99, -1);
        w.b = number(0, 99, -1);
        w.c = number(0, 99, -1);
        if (maybe("weight")) {
            w.weight = number(1, 9, -1);
        }
        w.guilty = maybe("guilty");
        worlds.add(w);
    }

    private void person() {
        atMost(told.size(), 6);
        TreeSet<Integer> set = new TreeSet<>();
        if (maybe("told")) {
            do {
                set.add(number(0, truths.size() - 1, -1));
            } while (now().isNumber());
        }
        told.add(set);
    }

    /** Looks at the tokens of a truth one by one, up to the sign behind it. */
    private List<String> truth() {
        List<String> seen = new ArrayList<>();
        Deque<String> open = new ArrayDeque<>();
        boolean unit = true;     // a unit may begin
        boolean operand = true;  // an operand must come
        boolean compared = false;
        boolean ended = false;   // a [ ] has just been closed
        for (;;) {
            Token t = now();
            String s = t.text;
            if (t.bad) {
                throw cannot();
            }
            boolean whole = ended || !operand && compared && !"(".equals(open.peek());
            if (whole) {
                if (s.equals("and") || s.equals("or")) {
                    while ("not".equals(open.peek())) {
                        open.pop();
                    }
                    unit = true;
                    operand = true;
                    compared = false;
                    ended = false;
                    seen.add(s);
                    at++;
                    continue;
                }
                if (s.equals("]") || s.equals(";")) {
                    while ("not".equals(open.peek())) {
                        open.pop();
                    }
                    if (s.equals(";") && open.isEmpty()) {
                        return seen;
                    }
                    if (s.equals(";") || !"[".equals(open.peek())) {
                        throw cannot();
                    }
                    open.pop();
                    ended = true;
                    seen.add(s);
                    at++;
                    continue;
                }
                if (ended) {
                    throw cannot();
                }
            }
            if (operand && (s.equals("(") || unit && (s.equals("not") || s.equals("[")))) {
                if (open.size() == 6) {
                    throw new Fault(4, t.at);
                }
                open.push(s);
                unit = !s.equals("(");
            } else if (operand && (t.isNumber() || List.of("a", "b", "c", "world", "weight", "guilty").contains(s))) {
                unit = false;
                operand = false;
            } else if (!operand && List.of("+", "-", "*").contains(s)) {
                operand = true;
            } else if (!operand && s.equals(")") && "(".equals(open.peek())) {
                open.pop();
            } else if (!operand && !compared && List.of("=", "<", ">").contains(s) && !"(".equals(open.peek())) {
                compared = true;
                operand = true;
            } else {
                throw cannot();
            }
            seen.add(s);
            at++;
        }
    }

    boolean holds(int f, int w) {
        return isSo(truths.get(f), w);
    }

    /** The last (or first) place outside all brackets where one of some signs stands, or -1. */
    private static int joint(List<String> t, String... signs) {
        int depth = 0;
        for (int i = t.size() - 1; i > 0; i--) {
            String s = t.get(i);
            if (s.equals(")") || s.equals("]")) {
                depth++;
            } else if (s.equals("(") || s.equals("[")) {
                depth--;
            } else if (depth == 0 && List.of(signs).contains(s)) {
                return i;
            }
        }
        return -1;
    }

    private boolean isSo(List<String> t, int w) {
        int i = joint(t, "or");
        if (i > 0) {
            return isSo(t.subList(0, i), w) | isSo(t.subList(i + 1, t.size()), w);
        }
        i = joint(t, "and");
        if (i > 0) {
            return isSo(t.subList(0, i), w) & isSo(t.subList(i + 1, t.size()), w);
        }
        if (t.get(0).equals("not")) {
            return !isSo(t.subList(1, t.size()), w);
        }
        i = joint(t, "=", "<", ">");
        if (i < 0) {
            return isSo(t.subList(1, t.size() - 1), w);
        }
        long x = sum(t.subList(0, i), w);
        long y = sum(t.subList(i + 1, t.size()), w);
        return t.get(i).equals("=") ? x == y : t.get(i).equals("<") ? x < y : x > y;
    }

    private long sum(List<String> t, int w) {
        int i = joint(t, "+", "-");
        if (i < 0) {
            i = joint(t, "*");
        }
        if (i > 0) {
            long x = sum(t.subList(0, i), w);
            long y = sum(t.subList(i + 1, t.size()), w);
            long v = t.get(i).equals("+") ? x + y : t.get(i).equals("-") ? x - y : x * y;
            return v > 1_000_000 ? 1_000_000 : v < -1_000_000 ? -1_000_000 : v;
        }
        World one = worlds.get(w);
        switch (t.get(0)) {
            case "(":
                return sum(t.subList(1, t.size() - 1), w);
            case "a":
                return one.a;
            case "b":
                return one.b;
            case "c":
                return one.c;
            case "world":
                return w;
            case "weight":
                return one.weight;
            case "guilty":
                return one.guilty ? 1 : 0;
            default:
                return Integer.parseInt(t.get(0));
        }
    }
}
