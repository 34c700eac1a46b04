import java.util.Random;

/** Texts by draws, many with something otherwise: the fault, its place and the land are as read plainly. */
public final class TextFuzzTest {
    private static final int TEXTS = 30000;

    private TextFuzzTest() {
    }

    public static void main(String[] args) {
        Random random = new Random(7);
        Texts texts = new Texts(random);
        KnowsLeast k = new KnowsLeast();
        int[] kinds = new int[5];
        for (int i = 0; i < TEXTS; i++) {
            String text = i % 5 == 0 ? texts.land() : texts.otherwise(texts.land());
            PlainText plain = new PlainText(text);
            kinds[plain.fault]++;
            int want = plain.fault == 0 ? plain.lines : -30 - plain.fault;
            Check.due("land " + text, want, Check.land(k, text));
            Check.due("fault 0 of " + text, plain.fault, k.fault(0));
            Check.due("fault 1 of " + text, plain.place, k.fault(1));
            if (plain.fault == 0) {
                holds(text, plain, k);
            }
        }
        for (int kind = 0; kind < 5; kind++) {
            System.out.println("texts with fault " + kind + ": " + kinds[kind]);
            Check.due("texts with fault " + kind + " are enough", 1, kinds[kind] >= 100 ? 1 : 0);
        }
        Check.end("TextFuzzTest");
    }

    private static void holds(String text, PlainText plain, KnowsLeast k) {
        for (int f = 0; f < plain.truths.size(); f++) {
            int bits = 0;
            for (int w = 0; w < plain.worlds.size(); w++) {
                bits |= plain.holds(f, w) ? 1 << w : 0;
            }
            Check.due("fact " + f + " of " + text, bits, k.fact(f));
        }
    }
}
