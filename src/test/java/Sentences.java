import java.io.IOException;
import java.nio.file.Files;
import java.nio.file.Path;
import java.util.ArrayList;
import java.util.Arrays;
import java.util.List;
import java.util.function.ToLongBiFunction;
import java.util.function.ToLongFunction;
import java.util.regex.Matcher;
import java.util.regex.Pattern;

/** The sentence of the document that is tested now, by its words and its promise (0: the document's Terms). */
final class Sentences {
    static final int TERMS = 0;
    static final int LOW = Integer.MIN_VALUE;
    static final int HIGH = Integer.MAX_VALUE;
    private static final int PROMISES = 51;
    private static final Path DOCUMENT = Path.of("../shared/DOC.md");
    /** Stands ahead of the Terms, and is counted among them. */
    private static final String FREE = "An object is used for at most 512 calls after it has been made";
    /** Words by which a promise names a bound: a code, NONE, from what to what. */
    private static final Pattern BOUND = Pattern.compile("-\\d+|NONE|\\d+ to \\d+|more than \\d+|\\(0: ");
    /** The same of the Terms, which name more of them. */
    private static final Pattern TERMS_BOUND = Pattern.compile("-\\d+|NONE|\\d+ to \\d+|-1,000,000 to|at most"
            + "|[wW]ithout|no more|MISSING|none at first|nothing more|0 always|of nobody|1 or 0|\\d+th|seventh");

    private static final List<Integer> PLACES = new ArrayList<>();
    private static final List<String> QUOTES = new ArrayList<>();
    private static int asked = 0;

    private Sentences() {
    }

    /** From here on it is this sentence of a promise that is tested. */
    static void said(int promise, String words) {
        mustHaveBeenAsked();
        PLACES.add(promise);
        QUOTES.add(words);
        asked = 0;
    }

    private static void mustHaveBeenAsked() {
        if (!QUOTES.isEmpty() && asked == 0) {
            Check.due(name() + ": answers looked at, of 1 and more", 1, 0);
        }
    }

    private static String name() {
        int last = QUOTES.size() - 1;
        int place = PLACES.get(last);
        return (place == TERMS ? "Terms" : "Promise " + place) + ", '" + QUOTES.get(last) + "'";
    }

    static void due(String call, long want, long got) {
        asked++;
        Check.due(name() + ": " + call, want, got);
    }

    /** A call answers so in a scene, and all that can be seen of the object is as it would be without the call. */
    static void leaves(Scene scene, String call, long answer, ToLongFunction<KnowsLeast> does) {
        due(scene + ": " + call, answer, does.applyAsLong(scene.make()));
        for (int part = 0; part < Probe.PARTS.length; part++) {
            KnowsLeast called = scene.make();
            does.applyAsLong(called);
            same(scene + ": " + call, part, Probe.see(scene.make(), part), Probe.see(called, part));
        }
    }

    static void same(String call, int part, List<String> before, List<String> behind) {
        String changed = "";
        for (int i = 0; i < Math.min(before.size(), behind.size()) && changed.isEmpty(); i++) {
            if (!before.get(i).equals(behind.get(i))) {
                changed = before.get(i) + ", then " + behind.get(i);
            }
        }
        boolean alike = before.equals(behind);
        due(call + " changes nothing of " + Probe.PARTS[part] + " " + changed, 0, alike ? 0 : 1);
    }

    /** Numbers below the least and above the most, the nearest and the farthest, and some that look like the least. */
    static int[] outside(int least, int most) {
        return new int[] {least - 1, most + 1, least + 256, least + 65536, LOW + least, LOW, HIGH};
    }

    /** A call with a number (# in its name) outside of its bounds is refused by a code, and changes nothing. */
    static void refusedOutside(Scene scene, String call, long code, int least, int most,
            ToLongBiFunction<KnowsLeast, Integer> does) {
        for (int number : outside(least, most)) {
            String name = call.replace("#", Integer.toString(number));
            leaves(scene, name, code, k -> does.applyAsLong(k, number));
        }
    }

    /** Each sentence named is in the document, and each bound that it names is in a sentence named. */
    static void compareWithDocument() throws IOException {
        mustHaveBeenAsked();
        if (!Files.exists(DOCUMENT)) {
            System.out.println("no " + DOCUMENT + ": sentences are not compared with it");
            return;
        }
        String document = Files.readString(DOCUMENT);
        compare(TERMS, terms(document), TERMS_BOUND);
        for (int promise = 1; promise <= PROMISES; promise++) {
            compare(promise, wordsOf(document, promise), BOUND);
        }
    }

    private static String terms(String document) {
        int from = document.indexOf("## Terms");
        int to = document.indexOf("The constants:");
        String terms = from < 0 || to < from ? "" : document.substring(from, to);
        return document.contains(FREE) ? terms + FREE : terms;
    }

    /** What a promise says behind the line that declares it. */
    private static String wordsOf(String document, int promise) {
        Matcher found = Pattern.compile("## Promise " + promise + ": [^\n]*\n+`[^`]*`: ([^\n]*)").matcher(document);
        return found.find() ? found.group(1) : "";
    }

    private static void compare(int promise, String words, Pattern bound) {
        boolean[] named = new boolean[words.length()];
        for (int i = 0; i < QUOTES.size(); i++) {
            if (PLACES.get(i) == promise) {
                int at = words.indexOf(QUOTES.get(i));
                Check.due("in the document, promise " + promise + ": '" + QUOTES.get(i) + "'", 1, at >= 0 ? 1 : 0);
                for (; at >= 0; at = words.indexOf(QUOTES.get(i), at + 1)) {
                    Arrays.fill(named, at, at + QUOTES.get(i).length(), true);
                }
            }
        }
        Matcher found = bound.matcher(words);
        while (found.find()) {
            String around = words.substring(Math.max(0, found.start() - 30), Math.min(words.length(), found.end() + 30));
            Check.due("promise " + promise + ", a bound without a test: .. " + around, 1, named[found.start()] ? 1 : 0);
        }
    }
}
