import java.util.ArrayList;
import java.util.List;
import java.util.Random;
import java.util.regex.Matcher;
import java.util.regex.Pattern;

/** Texts of lands by draws: good ones, and ones with a byte otherwise. */
final class Texts {
    private final Random random;
    private int worlds;
    private int facts;
    private int people;
    private boolean rich;

    Texts(Random random) {
        this.random = random;
    }

    private int below(int n) {
        return random.nextInt(n);
    }

    String land() {
        worlds = 0;
        facts = 0;
        people = 0;
        // in a rich land most facts part some worlds from others
        rich = below(3) != 0;
        int size = below(4);
        int mostWorlds = size == 0 ? below(4) : size == 1 ? 17 : 2 + below(8);
        int mostFacts = size == 1 ? 9 : below(6);
        int mostPeople = size == 1 ? 7 : below(5);
        int span = 1 + below(4);
        List<String> lines = new ArrayList<>();
        int n = 0;
        for (int i = 0; i < 70; i++) {
            String line = line(mostWorlds, mostFacts, mostPeople, span);
            if (line == null) {
                continue;
            }
            n += line.length();
            if (n > 880) {
                break;
            }
            lines.add(line);
        }
        return String.join("", lines);
    }

    private String line(int mostWorlds, int mostFacts, int mostPeople, int span) {
        switch (below(9)) {
            case 0:
            case 1:
            case 2:
                return worlds < Math.min(16, mostWorlds) ? world(span) : null;
            case 3:
            case 4:
                if (facts >= Math.min(8, mostFacts)) {
                    return null;
                }
                facts++;
                return "fact : " + (rich ? parting(span) : truth(span, 3)) + ";";
            case 5:
                return people < Math.min(6, mostPeople) ? person() : null;
            case 6:
                return road();
            case 7:
                return facts == 0 || below(2) == 0 ? null : "hint " + below(facts) + " " + below(facts) + ";";
            default:
                return worlds == 0 || below(4) != 0 ? null : "true " + below(worlds) + ";";
        }
    }

    private String world(int span) {
        worlds++;
        String line = "world " + below(span + 1) + " " + below(span + 1) + " " + below(span + 1);
        if (below(3) == 0) {
            line += " weight " + (1 + below(9));
        }
        return line + (below(2) == 0 ? " guilty;" : ";");
    }

    private String person() {
        people++;
        StringBuilder line = new StringBuilder("person");
        if (facts > 0 && below(3) != 0) {
            line.append(" told");
            for (int i = below(3); i >= 0; i--) {
                line.append(" ").append(below(facts));
            }
        }
        return line.append(";").toString();
    }

    private String road() {
        if (people < 2) {
            return null;
        }
        int p = below(people);
        int q = below(people);
        return p == q ? null : "road " + p + " " + q + ";";
    }

    private String parting(int span) {
        String[] sums = {"a", "b", "c", "a", "b", "c", "a + b", "b - c + 1", "a * b", "weight - a"};
        String sign = " " + "==<>".charAt(below(4)) + " ";
        if (below(4) == 0) {
            return "world" + sign + below(16) + " or world = " + below(16);
        }
        return (below(5) == 0 ? "not " : "") + sums[below(sums.length)] + sign + below(span + 1);
    }

    private String truth(int span, int deep) {
        String t = unit(span, deep);
        while (deep > 0 && below(4) == 0) {
            t += (below(2) == 0 ? " and " : " or ") + unit(span, deep - 1);
        }
        return t;
    }

    private String unit(int span, int deep) {
        int what = deep <= 0 ? 9 : below(9);
        if (what == 0) {
            return "not " + unit(span, deep - 1);
        }
        if (what == 1) {
            return "[" + truth(span, deep - 1) + "]";
        }
        return sum(span, deep - 1) + " " + "=<>".charAt(below(3)) + " " + sum(span, deep - 2);
    }

    private String sum(int span, int deep) {
        String t = atom(span, deep);
        while (deep > 0 && below(3) == 0) {
            t += " " + "+-*".charAt(below(3)) + " " + atom(span, deep - 1);
        }
        return t;
    }

    private String atom(int span, int deep) {
        switch (below(deep > 0 ? 12 : 11)) {
            case 0:
            case 1:
                return "a";
            case 2:
            case 3:
                return "b";
            case 4:
                return "c";
            case 5:
                return "world";
            case 6:
                return "weight";
            case 7:
                return "guilty";
            case 11:
                return "(" + sum(span, deep - 1) + ")";
            default:
                return below(20) == 0 ? "999" : "" + below(span + 1);
        }
    }

    /** A text of 900 bytes at most with something in it otherwise: a byte, a word, a number, a line. */
    String otherwise(String text) {
        String other;
        switch (below(4)) {
            case 0:
                other = manyMore(text);
                break;
            case 1:
                other = otherNumber(text);
                break;
            case 2:
                other = deeper(text);
                break;
            default:
                other = otherBytes(text);
                break;
        }
        return other.length() > 900 ? other.substring(0, 900) : other;
    }

    private String manyMore(String text) {
        String[] lines = {"world 1 1 1;", "fact : 1 = 1;", "person;"};
        String line = lines[below(3)];
        int at = text.indexOf(';', below(text.length() + 1)) + 1;
        return text.substring(0, at) + line.repeat(below(12)) + text.substring(at);
    }

    private String otherNumber(String text) {
        String[] numbers = {"0", "1", "5", "6", "7", "8", "9", "10", "15", "16", "99", "100", "999", "1000", "007"};
        Matcher found = Pattern.compile("[0-9]+").matcher(text);
        int from = below(text.length() + 1);
        if (!found.find(from)) {
            return text;
        }
        return text.substring(0, found.start()) + numbers[below(numbers.length)] + text.substring(found.end());
    }

    private String deeper(String text) {
        String[] marks = {":", "and", "or", "not", "[", "(", "="};
        String mark = marks[below(marks.length)];
        int at = text.indexOf(mark, below(text.length() + 1));
        if (at < 0) {
            return text;
        }
        at += mark.length();
        boolean inSum = mark.equals("=") || mark.equals("(");
        String[] more = {" not", " [", " ("};
        StringBuilder t = new StringBuilder();
        for (int i = below(9); i > 0; i--) {
            t.append(inSum ? " (" : more[below(3 - below(2))]);
        }
        return text.substring(0, at) + t + text.substring(at);
    }

    private String otherBytes(String text) {
        String[] bits = {";", ":", "+", "-", "*", "(", ")", "[", "]", "=", "<", ">", " ", "\n", "\t", ",", "A", "1000",
            "0", "7", "16", "99", "100", "999", "007", "0000", "world ", "fact ", "fact : ", "person ", "person;",
            "told ", "road ", "hint ", "true ", "weight ", "guilty ", "not ", "not not not ", "((( ", "[[[", ")))",
            "]]]", "and ", "or ", "a ", "b ", "c ", "d ", "worlds", "" + (char) 0, "" + (char) 200};
        StringBuilder t = new StringBuilder(text);
        for (int i = below(3); i >= 0; i--) {
            int from = below(t.length() + 1);
            int to = Math.min(t.length(), from + (below(3) == 0 ? 0 : below(3) == 0 ? below(8) : 1));
            t.replace(from, to, below(4) == 0 ? "" : bits[below(bits.length)]);
        }
        return t.toString();
    }
}
