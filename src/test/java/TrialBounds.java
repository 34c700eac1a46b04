/** Bounds that promises 32 to 38 name: parties, trials, who is right. */
final class TrialBounds {
    /** The true world alone is innocent; each of eight facts rules out one guilty world. */
    private static final String NINE = nine();

    private TrialBounds() {
    }

    static String nine() {
        StringBuilder text = new StringBuilder("world 8 0 0;");
        for (int i = 0; i < 8; i++) {
            text.append("world ").append(i).append(" 0 0 guilty;fact:a=").append(i).append(";");
        }
        return text.append("person;person told 0;person told 0 1 2 3 4 5 6;person told 0 1 2 3 4 5 6 7;").toString();
    }

    static void all() {
        partiesChoices();
        partiesNone();
        partiesNotNow();
        informNotNeeded();
        informNoneDoes();
        informNone();
        informNotNow();
        trialNoneNeeded();
        trialNotDone();
        trialNone();
        trialNotNow();
        briefNotDone();
        briefNone();
        briefNotNow();
        rightNone();
        justiceNone();
        justiceNotNow();
        bestLawNotNow();
    }

    private static void due(String call, long want, long got) {
        Sentences.due(call, want, got);
    }

    private static void partiesChoices() {
        Sentences.said(32, "what 0: the first one's choice (-100: NONE), 1: the other's (-100: NONE), 2: who judges.");
        KnowsLeast k = Scene.FULL.make();
        // 0 is the least, and 5 is if 0 is told 0, unless 5 is told something too
        due("both have it: parties(0, 0, 0, 0)", -100, k.parties(0, 0, 0, 0));
        due("both have it: parties(0, 0, 0, 1)", -100, k.parties(0, 0, 0, 1));
        due("both have it: parties(0, 0, 0, 2)", 0, k.parties(0, 0, 0, 2));
        due("the other tells, the first need not: parties(5, 5, 0, 0)", -100, k.parties(5, 5, 0, 0));
        due("the other tells 0 fact 0: parties(5, 5, 0, 1)", 0, k.parties(5, 5, 0, 1));
        due("the last judges: parties(5, 5, 0, 2)", 5, k.parties(5, 5, 0, 2));
        // neither can have 4, who knows all, judge
        due("nobody has it: parties(4, 4, 3, 0)", -100, k.parties(4, 4, 3, 0));
        due("nobody has it: parties(4, 4, 3, 1)", -100, k.parties(4, 4, 3, 1));
        due("nobody has it: parties(4, 4, 3, 2)", 0, k.parties(4, 4, 3, 2));
        KnowsLeast none = Scene.NO_FACTS.make();
        due("no fact to tell: parties(0, 1, 3, 0)", -100, none.parties(0, 1, 3, 0));
        due("no fact to tell: parties(0, 1, 3, 1)", -100, none.parties(0, 1, 3, 1));
        due("no fact to tell: parties(0, 1, 3, 2)", 0, none.parties(0, 1, 3, 2));
        KnowsLeast six = Check.landed("world 1 1 1;world 2 2 2;fact:a=1;" + "person told 0;".repeat(6));
        due("six who hold one world: parties(5, 5, 0, 2)", 0, six.parties(5, 5, 0, 2));
        lastChoice();
    }

    /** To tell the last of six the last of eight facts is all that helps. */
    private static void lastChoice() {
        KnowsLeast k = Check.landed(ONLY_57);
        due("the last of all choices: parties(0, 0, 0, 1)", 57, k.parties(0, 0, 0, 1));
        due("the last of all choices: inform(0, 0)", 57, k.inform(0, 0));
        // who wants 5 can undo that by telling 0 fact 7, and then nothing helps
        due("parties(5, 0, 0, 0)", 7, k.parties(5, 0, 0, 0));
        due("parties(5, 0, 0, 1)", -100, k.parties(5, 0, 0, 1));
        due("parties(0, 5, 0, 0)", -100, k.parties(0, 5, 0, 0));
        due("parties(0, 5, 0, 1)", 7, k.parties(0, 5, 0, 1));
        due("parties(0, 5, 0, 2)", 5, k.parties(0, 5, 0, 2));
    }

    /** 5 holds four worlds, 0 two, the others one; but for fact 7 none leaves 5 less than three. */
    private static final String ONLY_57 = "world 0 0 0;world 1 0 0;world 2 0 0;world 3 0 0;" + "fact:1=1;".repeat(5)
            + "fact:not a=1;fact:not a=2;fact:a<2;person told 5 6;" + "person told 5 6 7;".repeat(4) + "person;";

    private static void partiesNone() {
        Sentences.said(32, "NONE: none; -2: whom they want, the MEASURE, what");
        Sentences.refusedOutside(Scene.BUSY, "parties(#, 2, 3, 2)", -2, 0, 2, (k, p) -> k.parties(p, 2, 3, 2));
        Sentences.refusedOutside(Scene.BUSY, "parties(2, #, 3, 2)", -2, 0, 2, (k, p) -> k.parties(2, p, 3, 2));
        Sentences.refusedOutside(Scene.BUSY, "parties(2, 2, #, 2)", -2, 0, 3, (k, m) -> k.parties(2, 2, m, 2));
        Sentences.refusedOutside(Scene.BUSY, "parties(2, 2, 3, #)", -2, 0, 2, (k, what) -> k.parties(2, 2, 3, what));
        Sentences.leaves(Scene.FULL, "parties(6, 5, 3, 2)", -2, k -> k.parties(6, 5, 3, 2));
        Sentences.leaves(Scene.FULL, "parties(5, 6, 3, 2)", -2, k -> k.parties(5, 6, 3, 2));
        Sentences.leaves(Scene.FULL, "parties(5, 5, 4, 2)", -2, k -> k.parties(5, 5, 4, 2));
        Sentences.leaves(Scene.FULL, "parties(5, 5, 3, 3)", -2, k -> k.parties(5, 5, 3, 3));
        Sentences.leaves(Scene.NO_PEOPLE, "parties(0, 0, 0, 0)", -2, k -> k.parties(0, 0, 0, 0));
        Sentences.leaves(Scene.NEW, "parties(0, 0, 0, 0), ahead of no worlds", -2, k -> k.parties(0, 0, 0, 0));
        Sentences.leaves(Scene.NO_WORLDS, "parties(0, 0, 0, 3), ahead of no worlds", -2, k -> k.parties(0, 0, 0, 3));
        Sentences.leaves(Scene.FULL, "parties(5, 5, 3, 2), nothing is told", 5, k -> k.parties(5, 5, 3, 2));
    }

    private static void partiesNotNow() {
        Sentences.said(32, "-5: no WORLDS.");
        for (int i = 0; i < 3; i++) {
            int what = i;
            Sentences.leaves(Scene.NO_WORLDS, "parties(0, 1, 3, " + i + ")", -5, k -> k.parties(0, 1, 3, what));
        }
        due("one world", 0, Check.landed("world 1 1 1;person;").parties(0, 0, 0, 2));
    }

    private static void informNotNeeded() {
        Sentences.said(33, "-100: none is needed");
        Sentences.leaves(Scene.FULL, "inform(0, 0)", -100, k -> k.inform(0, 0));
        Sentences.leaves(Scene.FULL, "inform(0, 3)", -100, k -> k.inform(0, 3));
        due("one alone", -100, Check.landed("world 1 1 1;person;").inform(0, 0));
        due("the least of all: tell 0 fact 0", 0, Scene.FULL.make().inform(5, 0));
        due("the most of all: tell 5 fact 7", 57, Check.landed(ONLY_57).inform(0, 0));
    }

    private static void informNoneDoes() {
        Sentences.said(33, "NONE: none does");
        Sentences.leaves(Scene.FULL, "inform(4, 0)", -1, k -> k.inform(4, 0));
        Sentences.leaves(Scene.FULL, "inform(4, 3)", -1, k -> k.inform(4, 3));
        Sentences.leaves(Scene.NO_FACTS, "inform(1, 0), no fact to tell", -1, k -> k.inform(1, 0));
        KnowsLeast both = Check.landed("world 0 0 0;world 1 0 0;world 2 0 0;world 3 0 0;fact:not a=1;fact:not a=2;"
                + "person told 0 1;person;");
        due("both would, but not one of them: inform(0, 0)", -1, both.inform(0, 0));
        due("nothing was told", 4, both.measure(1, 0));
    }

    private static void informNone() {
        Sentences.said(33, "-2: the PERSON, the MEASURE");
        Sentences.refusedOutside(Scene.FULL, "inform(#, 3)", -2, 0, 5, (k, p) -> k.inform(p, 3));
        Sentences.refusedOutside(Scene.FULL, "inform(5, #)", -2, 0, 3, (k, m) -> k.inform(5, m));
        Sentences.refusedOutside(Scene.BUSY, "inform(#, 0)", -2, 0, 2, (k, p) -> k.inform(p, 0));
        Sentences.leaves(Scene.NO_PEOPLE, "inform(0, 0)", -2, k -> k.inform(0, 0));
        Sentences.leaves(Scene.NEW, "inform(0, 0), ahead of no worlds", -2, k -> k.inform(0, 0));
        Sentences.leaves(Scene.NO_WORLDS, "inform(0, 4), ahead of no worlds", -2, k -> k.inform(0, 4));
    }

    private static void informNotNow() {
        Sentences.said(33, "-5.");
        Sentences.leaves(Scene.NO_WORLDS, "inform(0, 0), ahead of none is needed", -5, k -> k.inform(0, 0));
        Sentences.leaves(Scene.NO_WORLDS, "inform(1, 3)", -5, k -> k.inform(1, 3));
    }

    private static void trialNoneNeeded() {
        Sentences.said(34, "what 0: the fewest FACTS at worst, 1: the first (NONE: none is needed).");
        KnowsLeast k = Check.landed(NINE);
        int[] fewest = {8, 7, 1, 0};
        int[] first = {0, 1, 7, -1};
        for (int p = 0; p < 4; p++) {
            due("trial(" + p + ", 0)", fewest[p], k.trial(p, 0));
            due("trial(" + p + ", 1)", first[p], k.trial(p, 1));
        }
        KnowsLeast all = Check.landed("world 1 1 1 guilty;world 2 2 2 guilty;fact:a=1;person;");
        due("all are guilty: trial(0, 0)", 0, all.trial(0, 0));
        due("all are guilty: trial(0, 1)", -1, all.trial(0, 1));
    }

    private static void trialNotDone() {
        Sentences.said(34, "NONE: FACTS do not do it");
        Sentences.leaves(Scene.NO_FACTS, "trial(0, 0)", -1, k -> k.trial(0, 0));
        Sentences.leaves(Scene.NO_FACTS, "trial(1, 1)", -1, k -> k.trial(1, 1));
        // in the true world it would be done, in another one that is possible not
        KnowsLeast k = Check.landed("world 0 0 0 guilty;world 1 0 0 guilty;world 1 1 0;fact:a=0;person;person told 0;");
        due("at worst not: trial(0, 0)", -1, k.trial(0, 0));
        due("at worst not: trial(0, 1)", -1, k.trial(0, 1));
        due("what is ruled out counts not: trial(1, 0)", 0, k.trial(1, 0));
    }

    private static void trialNone() {
        Sentences.said(34, "-2: the PERSON, what");
        Sentences.refusedOutside(Scene.FULL, "trial(#, 1)", -2, 0, 5, (k, p) -> k.trial(p, 1));
        Sentences.refusedOutside(Scene.FULL, "trial(5, #)", -2, 0, 1, (k, what) -> k.trial(5, what));
        Sentences.refusedOutside(Scene.BUSY, "trial(#, 0)", -2, 0, 2, (k, p) -> k.trial(p, 0));
        Sentences.leaves(Scene.NO_PEOPLE, "trial(0, 0)", -2, k -> k.trial(0, 0));
        Sentences.leaves(Scene.NEW, "trial(0, 0), ahead of no worlds", -2, k -> k.trial(0, 0));
        Sentences.leaves(Scene.NO_WORLDS, "trial(0, 2), ahead of no worlds", -2, k -> k.trial(0, 2));
        due("the last: trial(5, 0)", 1, Scene.FULL.make().trial(5, 0));
        due("the last: trial(5, 1)", 4, Scene.FULL.make().trial(5, 1));
    }

    private static void trialNotNow() {
        Sentences.said(34, "-5: no WORLDS.");
        Sentences.leaves(Scene.NO_WORLDS, "trial(0, 0)", -5, k -> k.trial(0, 0));
        Sentences.leaves(Scene.NO_WORLDS, "trial(1, 1), ahead of none is needed", -5, k -> k.trial(1, 1));
    }

    private static void briefNotDone() {
        Sentences.said(35, "NONE: all FACTS do not do it");
        Sentences.leaves(Scene.NO_FACTS, "brief(1)", -1, k -> k.brief(1));
        KnowsLeast k = Check.landed("world 0 0 0 guilty;world 1 0 0 guilty;world 1 1 0;fact:a=0;person;true 1;");
        due("not in the true world: brief(0)", -1, k.brief(0));
        k.isTrue(0);
        due("it would in another: brief(0)", 1, k.brief(0));
        KnowsLeast nine = Check.landed(NINE);
        int[] sets = {255, 254, 128, 0};
        for (int p = 0; p < 4; p++) {
            due("of all eight: brief(" + p + ")", sets[p], nine.brief(p));
        }
    }

    private static void briefNone() {
        Sentences.said(35, "-2; -5.");
        Sentences.refusedOutside(Scene.FULL, "brief(#)", -2, 0, 5, (k, p) -> k.brief(p));
        Sentences.refusedOutside(Scene.BUSY, "brief(#)", -2, 0, 2, (k, p) -> k.brief(p));
        Sentences.leaves(Scene.NO_PEOPLE, "brief(0)", -2, k -> k.brief(0));
        Sentences.leaves(Scene.NO_WORLDS, "brief(2), ahead of no worlds", -2, k -> k.brief(2));
        // facts 3, 4 and 5 would each do it alone
        due("the last: brief(5)", 8, Scene.FULL.make().brief(5));
    }

    private static void briefNotNow() {
        Sentences.said(35, "-5.");
        Sentences.leaves(Scene.NO_WORLDS, "brief(0)", -5, k -> k.brief(0));
        Sentences.leaves(Scene.NO_WORLDS, "brief(1)", -5, k -> k.brief(1));
    }

    private static void rightNone() {
        Sentences.said(36, "-2.");
        KnowsLeast k = Scene.FULL.make();
        // the guilty and the others have 12 each: no more is not enough
        due("as much weight on both sides: right(0)", 0, k.right(0));
        due("the last: right(5)", 0, k.right(5));
        due("in all worlds: right(4)", 24, k.right(4));
        due("without worlds: right(1)", 0, Scene.NO_WORLDS.make().right(1));
        Sentences.refusedOutside(Scene.FULL, "right(#)", -2, 0, 5, (x, p) -> x.right(p));
        Sentences.refusedOutside(Scene.BUSY, "right(#)", -2, 0, 2, (x, p) -> x.right(p));
        Sentences.leaves(Scene.NO_PEOPLE, "right(0)", -2, x -> x.right(0));
    }

    private static void justiceNone() {
        Sentences.said(37, "-2; -5: no PEOPLE.");
        for (Scene scene : new Scene[] {Scene.FULL, Scene.BUSY, Scene.NO_PEOPLE, Scene.NEW}) {
            Sentences.refusedOutside(scene, "justice(#)", -2, 0, 3, (k, m) -> k.justice(m));
        }
        due("the last measure: justice(3)", 0, Scene.FULL.make().justice(3));
    }

    private static void justiceNotNow() {
        Sentences.said(37, "-5: no PEOPLE.");
        for (int i = 0; i < 4; i++) {
            int m = i;
            Sentences.leaves(Scene.NO_PEOPLE, "justice(" + i + ")", -5, k -> k.justice(m));
            Sentences.leaves(Scene.NEW, "justice(" + i + ")", -5, k -> k.justice(m));
            due("people without worlds: justice(" + i + ")", 0, Scene.NO_WORLDS.make().justice(m));
            due("one alone: justice(" + i + ")", 9, Check.landed("world 1 1 1 weight 9;person;").justice(m));
        }
    }

    private static void bestLawNotNow() {
        Sentences.said(38, "-5.");
        Sentences.leaves(Scene.NO_PEOPLE, "bestLaw()", -5, KnowsLeast::bestLaw);
        Sentences.leaves(Scene.NEW, "bestLaw()", -5, KnowsLeast::bestLaw);
        due("people without worlds", 0, Scene.NO_WORLDS.make().bestLaw());
        due("of four alike the first", 0, Scene.FULL.make().bestLaw());
        // 0 holds 0 | 1 2, right in 0; 1 holds 1 | 0 2, right everywhere: by facts alone 1 judges in 2
        KnowsLeast last = Check.landed("world 0 0 0;world 1 0 0 guilty;world 2 0 0;fact:a=0;fact:a=1;fact:a=0;"
                + "person told 0;person told 1;");
        due("the last of four", 3, last.bestLaw());
    }
}
