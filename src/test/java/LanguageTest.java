import java.io.IOException;
import java.lang.reflect.Member;
import java.lang.reflect.Method;
import java.lang.reflect.Modifier;
import java.nio.file.Files;
import java.nio.file.Path;
import java.util.ArrayList;
import java.util.List;
import java.util.Set;
import java.util.TreeSet;
import java.util.regex.Matcher;
import java.util.regex.Pattern;

/** The rules of LANGUAGE.md that can be seen from the program's text and from its classes. */
public final class LanguageTest {
    private static final Path PROGRAM = Path.of("src/main/java/KnowsLeast.java");
    private static final String[] BANNED = {"throw", "throws", "try", "catch", "finally", "synchronized", "assert",
        "goto", "native", "volatile", "transient", "hashCode", "toString", "Exact", "Random", "Thread", "Object",
        "Exception", "currentTimeMillis", "nanoTime", "getClass", "Class", "var", "yield", "protected", "package"};

    private LanguageTest() {
    }

    public static void main(String[] args) throws IOException {
        String program = withoutComments(Files.readString(PROGRAM));
        words(program);
        imports(program);
        methods(program);
        face();
        Check.end("LanguageTest");
    }

    private static String withoutComments(String text) {
        return text.replaceAll("(?s)/\\*.*?\\*/", "").replaceAll("//[^\n]*", "").replaceAll("\"[^\"\n]*\"", "\"\"");
    }

    private static void words(String program) {
        for (String word : BANNED) {
            Matcher found = Pattern.compile("\\b" + word + "\\b").matcher(program);
            Check.due("word " + word, 0, found.find() ? 1 : 0);
        }
        for (String sign : new String[] {"->", "::", "\"\" +", "+ \"\"", "@"}) {
            Check.due("sign " + sign, 0, program.contains(sign) ? 1 : 0);
        }
        for (char c : program.toCharArray()) {
            if (c > 126) {
                Check.due("sign " + (int) c, 0, 1);
            }
        }
    }

    private static void imports(String program) {
        Matcher found = Pattern.compile("import ([a-zA-Z.]+);").matcher(program);
        Set<String> allowed = Set.of("java.util.Arrays", "java.util.ArrayList", "java.util.List", "java.util.Iterator");
        while (found.find()) {
            Check.due("import " + found.group(1), 1, allowed.contains(found.group(1)) ? 1 : 0);
        }
        int classes = program.split("\\b(class|record|enum|interface) [A-Z]").length - 1;
        Check.due("at most twelve classes, there are " + classes, 1, classes <= 12 ? 1 : 0);
    }

    /** Methods stay short and take at most seven parameters. */
    private static void methods(String program) {
        String[] lines = program.split("\n");
        Pattern head = Pattern.compile("^ +(?:[a-z]+ )*[A-Za-z\\[\\]]+ ?([a-zA-Z]+)\\(([^)]*)\\) \\{$");
        for (int i = 0; i < lines.length; i++) {
            Matcher found = head.matcher(lines[i]);
            if (!found.find() || lines[i].matches(" *(if|for|while|switch|else|\\}).*")) {
                continue;
            }
            String indent = lines[i].replaceAll("\\S.*", "");
            int end = i;
            while (!lines[end].equals(indent + "}")) {
                end++;
            }
            Check.due("lines of " + found.group(1), 1, end - i <= 60 ? 1 : 0);
            Check.due("parameters of " + found.group(1), 1, found.group(2).split(",").length <= 7 ? 1 : 0);
        }
    }

    private static void face() {
        Set<String> open = new TreeSet<>();
        List<Member> members = new ArrayList<>(List.of(KnowsLeast.class.getDeclaredMethods()));
        members.addAll(List.of(KnowsLeast.class.getDeclaredFields()));
        members.addAll(List.of(KnowsLeast.class.getDeclaredConstructors()));
        for (Member m : members) {
            if (!Modifier.isPrivate(m.getModifiers())) {
                open.add(m.getName());
                Check.due("public " + m.getName(), 1, Modifier.isPublic(m.getModifiers()) ? 1 : 0);
            }
        }
        Set<String> due = new TreeSet<>(Set.of(("NONE KnowsLeast feed land fault world fact person hints knows cell tell"
                + " ask days isTrue undo judge perform year everyone depth common reach together witnesses parting"
                + " measure least seats differ shown appeals parties inform trial brief right justice bestLaw news"
                + " latest leastIn calm fitting sure questions numbers write copy image restore count").split(" ")));
        Check.due("the face is " + open, 1, open.equals(due) ? 1 : 0);
        for (Class<?> inside : KnowsLeast.class.getDeclaredClasses()) {
            Check.due(inside + " is static", 1, Modifier.isStatic(inside.getModifiers()) ? 1 : 0);
            Check.due(inside + " is not public", 0, Modifier.isPublic(inside.getModifiers()) ? 1 : 0);
            for (Method m : inside.getDeclaredMethods()) {
                Check.due(inside + " names none as the face: " + m.getName(), 0, due.contains(m.getName()) ? 1 : 0);
            }
        }
        long fields = List.of(KnowsLeast.class.getDeclaredFields()).stream()
                .filter(f -> !Modifier.isStatic(f.getModifiers())).count();
        Check.due("at most twenty fields", 1, fields <= 20 ? 1 : 0);
    }
}
