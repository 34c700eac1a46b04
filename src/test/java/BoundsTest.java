import java.io.IOException;

/** For each sentence of the document that names a bound a test of its own, named by its promise and its words. */
public final class BoundsTest {
    private BoundsTest() {
    }

    public static void main(String[] args) throws IOException {
        TermBounds.all();
        RuleBounds.all();
        LandBounds.all();
        DeedBounds.all();
        KnownBounds.all();
        TrialBounds.all();
        NewsBounds.all();
        RowBounds.all();
        Sentences.compareWithDocument();
        Check.end("BoundsTest");
    }
}
