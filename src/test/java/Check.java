/** Counts answers that are as due, prints those that are not. */
final class Check {
    private static final int MOST_PRINTED = 40;
    private static int right = 0;
    private static int wrong = 0;

    private Check() {
    }

    static void due(String call, long want, long got) {
        if (want == got) {
            right++;
            return;
        }
        wrong++;
        if (wrong <= MOST_PRINTED) {
            System.out.println(call + " answered " + got + ", due is " + want);
        }
    }

    static int wrongSoFar() {
        return wrong;
    }

    /** Feeds a text, with blanks up to the next twenty bytes: how many bytes the text has. */
    static int feed(KnowsLeast k, String text) {
        int[] v = new int[5];
        for (int i = 0; i < text.length(); i += 20) {
            for (int j = 0; j < 5; j++) {
                v[j] = 0;
                for (int b = 0; b < 4; b++) {
                    int at = i + 4 * j + b;
                    v[j] = v[j] << 8 | (at < text.length() ? text.charAt(at) & 255 : 32);
                }
            }
            k.feed(v[0], v[1], v[2], v[3], v[4]);
        }
        return text.length();
    }

    static int land(KnowsLeast k, String text) {
        return k.land(feed(k, text));
    }

    static KnowsLeast landed(String text) {
        KnowsLeast k = new KnowsLeast();
        int lines = land(k, text);
        if (lines < 0) {
            due("land of " + text, 0, lines);
        }
        return k;
    }

    static void row(KnowsLeast k, int row, int sort, long... numbers) {
        k.numbers(row, sort, numbers.length);
        for (int i = 0; i < numbers.length; i++) {
            k.write(row, i, numbers[i]);
        }
    }

    static void end(String name) {
        System.out.println(name + ": " + right + " answers as due, " + wrong + " not");
        if (wrong != 0 || right == 0) {
            System.exit(1);
        }
    }
}
