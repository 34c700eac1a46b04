/** Bounds that promises 39 to 45 name: news, and who asked. */
final class NewsBounds {
    /** The first of six in a street was told the first of two facts. */
    private static final String STREET = "world 0 0 0;world 1 0 0;fact:a=1;fact:a=0;person told 0;" + "person;".repeat(5)
            + "road 0 1;road 1 2;road 2 3;road 3 4;road 4 5;";
    private static final String NINE = TrialBounds.nine();

    private NewsBounds() {
    }

    static void all() {
        newsNone();
        latestNobody();
        latestNone();
        leastInDays();
        leastInNobody();
        leastInNone();
        leastInOutside();
        calm();
        fittingNoRow();
        fittingMissing();
        fittingTooMany();
        fittingNoFact();
        fittingNotNow();
        sureNone();
        sureRefused();
        questionsOneToFour();
        questionsNone();
        questionsOutside();
        questionsNotNow();
    }

    private static void due(String call, long want, long got) {
        Sentences.due(call, want, got);
    }

    private static void newsNone() {
        Sentences.said(39, "-2.");
        KnowsLeast k = Check.landed(STREET);
        for (int p = 0; p < 6; p++) {
            due("news(" + p + ", 0)", p, k.news(p, 0));
            due("never: news(" + p + ", 1)", -1, k.news(p, 1));
        }
        due("the last of all: news(5, 7)", 1, Check.landed(Scene.fullText()).news(5, 7));
        Sentences.refusedOutside(Scene.FULL, "news(#, 7)", -2, 0, 5, (x, p) -> x.news(p, 7));
        Sentences.refusedOutside(Scene.FULL, "news(5, #)", -2, 0, 7, (x, f) -> x.news(5, f));
        Sentences.refusedOutside(Scene.BUSY, "news(#, 0)", -2, 0, 2, (x, p) -> x.news(p, 0));
        Sentences.refusedOutside(Scene.BUSY, "news(0, #)", -2, 0, 2, (x, f) -> x.news(0, f));
        Sentences.leaves(Scene.NO_PEOPLE, "news(0, 0)", -2, x -> x.news(0, 0));
        Sentences.leaves(Scene.NO_FACTS, "news(0, 0)", -2, x -> x.news(0, 0));
    }

    private static void latestNobody() {
        Sentences.said(40, "NONE: no PEOPLE");
        Sentences.leaves(Scene.NO_PEOPLE, "latest(0)", -1, k -> k.latest(0));
        due("one alone", 0, Check.landed("fact:1=1;person;").latest(0));
        due("the last of six", 5, Check.landed(STREET).latest(0));
    }

    private static void latestNone() {
        Sentences.said(40, "-2.");
        Sentences.refusedOutside(Scene.FULL, "latest(#)", -2, 0, 7, (k, f) -> k.latest(f));
        Sentences.refusedOutside(Scene.BUSY, "latest(#)", -2, 0, 2, (k, f) -> k.latest(f));
        Sentences.leaves(Scene.NO_PEOPLE, "latest(1), ahead of NONE", -2, k -> k.latest(1));
        Sentences.leaves(Scene.NEW, "latest(0), ahead of NONE", -2, k -> k.latest(0));
        due("the last fact: latest(7)", 0, Scene.FULL.make().latest(7));
    }

    private static void leastInDays() {
        Sentences.said(41, "The PERSON who is the LEAST by a MEASURE n DAYS (0 to 60) from now.");
        KnowsLeast k = Check.landed(STREET);
        for (int n = 0; n <= 60; n++) {
            due("leastIn(0, " + n + ")", n < 5 ? n + 1 : 0, k.leastIn(0, n));
        }
        due("no day has gone", 1, k.least(0));
    }

    private static void leastInNobody() {
        Sentences.said(41, "NONE: no PEOPLE");
        Sentences.leaves(Scene.NO_PEOPLE, "leastIn(0, 0)", -1, k -> k.leastIn(0, 0));
        Sentences.leaves(Scene.NEW, "leastIn(3, 60)", -1, k -> k.leastIn(3, 60));
    }

    private static void leastInNone() {
        Sentences.said(41, "-2; -3.");
        for (Scene scene : new Scene[] {Scene.FULL, Scene.BUSY, Scene.NEW}) {
            Sentences.refusedOutside(scene, "leastIn(#, 60)", -2, 0, 3, (k, m) -> k.leastIn(m, 60));
        }
        Sentences.leaves(Scene.BUSY, "leastIn(4, 61), ahead of -3", -2, k -> k.leastIn(4, 61));
    }

    private static void leastInOutside() {
        Sentences.said(41, "-3.");
        for (Scene scene : new Scene[] {Scene.FULL, Scene.BUSY, Scene.NO_PEOPLE, Scene.NEW}) {
            Sentences.refusedOutside(scene, "leastIn(3, #)", -3, 0, 60, (k, n) -> k.leastIn(3, n));
        }
    }

    private static void calm() {
        Sentences.said(42, "DAYS till nobody is TOLD more (0: nobody will be).");
        KnowsLeast k = Check.landed(STREET);
        for (int days = 5; days > 0; days--) {
            due("calm()", days, k.calm());
            k.days(1);
        }
        due("calm() then", 0, k.calm());
        due("nobody at all", 0, new KnowsLeast().calm());
        due("no facts", 0, Scene.NO_FACTS.make().calm());
        due("no roads", 0, Check.landed("fact:1=1;person told 0;person;").calm());
        Sentences.leaves(Scene.FULL, "calm(), no day goes", 5, KnowsLeast::calm);
    }

    private static void fittingNoRow() {
        Sentences.said(43, "-2: the ROW");
        Sentences.refusedOutside(Scene.BUSY, "fitting(#)", -2, 0, 3, (k, row) -> k.fitting(row));
        Sentences.refusedOutside(Scene.NEW, "fitting(#)", -2, 0, 3, (k, row) -> k.fitting(row));
        KnowsLeast k = Check.landed(NINE);
        Check.row(k, 3, 0, 0);
        due("the last row", 128, k.fitting(3));
    }

    private static void fittingMissing() {
        Sentences.said(43, "-6; -4: not 1 to 8 numbers");
        Sentences.leaves(Scene.BUSY, "fitting(3)", -6, k -> k.fitting(3));
        Sentences.leaves(Scene.NO_WORLDS, "fitting(3), ahead of no worlds", -6, k -> k.fitting(3));
        Sentences.leaves(Scene.NEW, "fitting(0), ahead of no worlds", -6, k -> k.fitting(0));
    }

    private static void fittingTooMany() {
        Sentences.said(43, "-4: not 1 to 8 numbers");
        Sentences.leaves(Scene.BUSY, "fitting(2), none", -4, k -> k.fitting(2));
        Sentences.leaves(Scene.FULL, "fitting(0), forty", -4, k -> k.fitting(0));
        KnowsLeast k = Check.landed(NINE);
        int[] want = {-4, 128, 64, 32, 16, 8, 4, 2, 1, -4, -4};
        for (int n = 0; n <= 10; n++) {
            k.numbers(0, 0, n);
            for (int i = 0; i < n; i++) {
                k.write(0, i, i);
            }
            due("fitting of " + n + " numbers", want[n], k.fitting(0));
        }
        Sentences.leaves(Scene.NO_WORLDS, "fitting(2), ahead of no worlds", -4, x -> x.fitting(2));
    }

    private static void fittingNoFact() {
        Sentences.said(43, "-3: one is no FACT");
        KnowsLeast k = Check.landed(NINE);
        long[] wrong = {-1, 8, 9, 255, 256, 65536, 1L << 32, (1L << 32) + 1, Long.MAX_VALUE, Long.MIN_VALUE};
        for (long number : wrong) {
            Check.row(k, 0, 3, number);
            due("fitting of " + number, -3, k.fitting(0));
            Check.row(k, 0, 3, 0, 1, 2, 3, 4, 5, 6, number);
            due("fitting of seven facts and " + number, -3, k.fitting(0));
        }
        Check.row(k, 0, 3, 7);
        due("fitting of 7", 128, k.fitting(0));
        Sentences.leaves(Scene.NO_FACTS, "fitting(0), without facts", -3, x -> x.fitting(0));
        Sentences.leaves(Scene.NO_WORLDS, "fitting(1), ahead of no worlds", -3, x -> x.fitting(1));
    }

    private static void fittingNotNow() {
        Sentences.said(43, "-5: no WORLDS.");
        Sentences.leaves(Scene.NO_WORLDS, "fitting(0)", -5, k -> k.fitting(0));
        due("one world: none fits", 0, oneWorld().fitting(0));
    }

    private static KnowsLeast oneWorld() {
        KnowsLeast k = Check.landed("world 1 1 1;fact:1=1;");
        Check.row(k, 0, 0, 0);
        return k;
    }

    private static void sureNone() {
        Sentences.said(44, "NONE: none FITS");
        due("one world", -1, oneWorld().sure(0));
        KnowsLeast k = Check.landed(NINE);
        Check.row(k, 0, 0, 0, 0);
        due("the same fact twice", -1, k.sure(0));
        Check.row(k, 0, 0, 7);
        due("one fact", 128, k.sure(0));
        Check.row(k, 0, 0, 0, 1, 2, 3, 4, 5, 6, 7);
        due("all eight", 255, k.sure(0));
    }

    private static void sureRefused() {
        Sentences.said(44, "else as fitting().");
        Sentences.refusedOutside(Scene.BUSY, "sure(#)", -2, 0, 3, (k, row) -> k.sure(row));
        Sentences.leaves(Scene.BUSY, "sure(3)", -6, k -> k.sure(3));
        Sentences.leaves(Scene.BUSY, "sure(2), none", -4, k -> k.sure(2));
        Sentences.leaves(Scene.FULL, "sure(0), forty", -4, k -> k.sure(0));
        Sentences.leaves(Scene.NO_FACTS, "sure(0)", -3, k -> k.sure(0));
        Sentences.leaves(Scene.NO_WORLDS, "sure(3), ahead of no worlds", -6, k -> k.sure(3));
        Sentences.leaves(Scene.NO_WORLDS, "sure(2), ahead of no worlds", -4, k -> k.sure(2));
        Sentences.leaves(Scene.NO_WORLDS, "sure(1), ahead of no worlds", -3, k -> k.sure(1));
        Sentences.leaves(Scene.NO_WORLDS, "sure(0)", -5, k -> k.sure(0));
        KnowsLeast k = Check.landed(NINE);
        Check.row(k, 0, 0, 0, 1, 2, 3, 4, 5, 6, 7, 0);
        due("sure of nine numbers", -4, k.sure(0));
        Check.row(k, 0, 0, 0, 1, 2, 3, 4, 5, 6, 8);
        due("sure of what is no fact", -3, k.sure(0));
    }

    private static void questionsOneToFour() {
        Sentences.said(45, "How many rows of n FACTS (1 to 4) a PERSON could ask so, one behind the other (each unlike, as it must be).");
        KnowsLeast k = Check.landed(NINE);
        int[] all = {8, 56, 336, 1680};
        int[] one = {1, 0, 0, 0};
        for (int n = 1; n <= 4; n++) {
            due("questions(0, " + n + ")", all[n - 1], k.questions(0, n));
            due("of one fact left: questions(2, " + n + ")", one[n - 1], k.questions(2, n));
            due("of none: questions(3, " + n + ")", 0, k.questions(3, n));
            due("without facts: questions(1, " + n + ")", 0, Scene.NO_FACTS.make().questions(1, n));
        }
    }

    private static void questionsNone() {
        Sentences.said(45, "-2; -3; -5.");
        Sentences.refusedOutside(Scene.FULL, "questions(#, 4)", -2, 0, 5, (k, p) -> k.questions(p, 4));
        Sentences.refusedOutside(Scene.BUSY, "questions(#, 1)", -2, 0, 2, (k, p) -> k.questions(p, 1));
        Sentences.leaves(Scene.NO_PEOPLE, "questions(0, 1)", -2, k -> k.questions(0, 1));
        Sentences.leaves(Scene.BUSY, "questions(3, 5), ahead of -3", -2, k -> k.questions(3, 5));
        Sentences.leaves(Scene.NO_WORLDS, "questions(2, 1), ahead of -5", -2, k -> k.questions(2, 1));
    }

    private static void questionsOutside() {
        Sentences.said(45, "-3; -5.");
        Sentences.refusedOutside(Scene.FULL, "questions(5, #)", -3, 1, 4, (k, n) -> k.questions(5, n));
        Sentences.refusedOutside(Scene.BUSY, "questions(2, #)", -3, 1, 4, (k, n) -> k.questions(2, n));
        Sentences.refusedOutside(Scene.NO_WORLDS, "questions(0, #), ahead of -5", -3, 1, 4, (k, n) -> k.questions(0, n));
    }

    private static void questionsNotNow() {
        Sentences.said(45, "-5.");
        Sentences.leaves(Scene.NO_WORLDS, "questions(0, 1)", -5, k -> k.questions(0, 1));
        Sentences.leaves(Scene.NO_WORLDS, "questions(1, 4)", -5, k -> k.questions(1, 4));
    }
}
