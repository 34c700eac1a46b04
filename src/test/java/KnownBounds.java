/** Bounds that promises 19 to 31 name: what is known, who knows least. */
final class KnownBounds {
    /** Sixteen worlds in a row: person 0 can't tell 2 i from 2 i + 1, person 1 not 2 i + 1 from 2 i + 2. */
    private static final String LADDER = ladder();

    private KnownBounds() {
    }

    private static String ladder() {
        StringBuilder text = new StringBuilder();
        for (int i = 0; i < 16; i++) {
            text.append("world ").append(i).append(' ').append(i / 2).append(' ').append((i + 1) / 2).append(';');
        }
        // b and c, as bits: three of 0 to 7, four of 0 to 8; the last fact holds in the last world
        text.append("fact:b>3;fact:b=2 or b=3 or b>5;fact:b=1 or b=3 or b=5 or b=7;");
        text.append("fact:c>7;fact:c>3;fact:c=2 or c=3 or c=6 or c=7;fact:c=1 or c=3 or c=5 or c=7;fact:a=15;");
        return text.append("person told 0 1 2;person told 3 4 5 6;").toString();
    }

    static void all() {
        everyoneNone();
        everyoneNotNow();
        depthCommon();
        depthNone();
        depthNotNow();
        commonNotNow();
        reachSteps();
        reachOutside();
        reachNotNow();
        togetherOthers();
        togetherNotNow();
        witnessesNotEvenAll();
        witnessesNotNow();
        partingNone();
        measureNone();
        leastNobody();
        leastNone();
        seatsNone();
        differNone();
        shownNot();
        shownNone();
        appealsEdges();
        appealsNone();
    }

    private static void due(String call, long want, long got) {
        Sentences.due(call, want, got);
    }

    private static void everyoneNone() {
        Sentences.said(19, "-2; -5: no WORLDS.");
        KnowsLeast k = Scene.FULL.make();
        due("the first: everyone(0)", 0, k.everyone(0));
        due("what holds everywhere: everyone(6)", 1, k.everyone(6));
        due("the last: everyone(7)", 0, k.everyone(7));
        Sentences.refusedOutside(Scene.FULL, "everyone(#)", -2, 0, 7, (x, f) -> x.everyone(f));
        Sentences.refusedOutside(Scene.BUSY, "everyone(#)", -2, 0, 2, (x, f) -> x.everyone(f));
        Sentences.refusedOutside(Scene.NO_FACTS, "everyone(#)", -2, 0, -1, (x, f) -> x.everyone(f));
        Sentences.leaves(Scene.NO_WORLDS, "everyone(2), no fact ahead of no worlds", -2, x -> x.everyone(2));
        Sentences.leaves(Scene.NEW, "everyone(0), no fact ahead of no worlds", -2, x -> x.everyone(0));
    }

    private static void everyoneNotNow() {
        Sentences.said(19, "-5: no WORLDS.");
        Sentences.leaves(Scene.NO_WORLDS, "everyone(0)", -5, k -> k.everyone(0));
        Sentences.leaves(Scene.NO_WORLDS, "everyone(1)", -5, k -> k.everyone(1));
        due("with one world", 1, Check.landed("world 1 1 1;fact:1=2;person;").everyone(0));
        due("what is known of depth 1 alone", 1, Check.landed(LADDER).everyone(2));
        due("what is known of depth 0 alone", 0, Check.landed(LADDER).everyone(6));
        due("without people", 1, Scene.NO_PEOPLE.make().everyone(0));
    }

    private static void depthCommon() {
        Sentences.said(20, "The greatest DEPTH of which a FACT is known; 100: it is COMMON.");
        KnowsLeast k = Check.landed(LADDER);
        due("up to the last of fifteen steps: depth(7)", 14, k.depth(7));
        due("no depth but 0: depth(6)", 0, k.depth(6));
        due("one step: depth(2)", 1, k.depth(2));
        k.isTrue(15);
        due("from the other end: depth(7)", 0, k.depth(7));
        due("what holds everywhere", 100, Scene.FULL.make().depth(6));
        due("what holds nowhere", 100, Check.landed("world 1 1 1;world 2 2 2;fact:a=3;person;").depth(0));
        due("without people", 100, Scene.NO_PEOPLE.make().depth(0));
    }

    private static void depthNone() {
        Sentences.said(20, "-2; -5.");
        Sentences.refusedOutside(Scene.FULL, "depth(#)", -2, 0, 7, (x, f) -> x.depth(f));
        Sentences.refusedOutside(Scene.BUSY, "depth(#)", -2, 0, 2, (x, f) -> x.depth(f));
        Sentences.leaves(Scene.NO_WORLDS, "depth(2), no fact ahead of no worlds", -2, x -> x.depth(2));
        Sentences.leaves(Scene.NEW, "depth(0), no fact ahead of no worlds", -2, x -> x.depth(0));
    }

    private static void depthNotNow() {
        Sentences.said(20, "-5.");
        Sentences.leaves(Scene.NO_WORLDS, "depth(0)", -5, k -> k.depth(0));
        Sentences.leaves(Scene.NO_WORLDS, "depth(1)", -5, k -> k.depth(1));
    }

    private static void commonNotNow() {
        Sentences.said(21, "-5.");
        Sentences.leaves(Scene.NEW, "common()", -5, KnowsLeast::common);
        Sentences.leaves(Scene.NO_WORLDS, "common()", -5, KnowsLeast::common);
        due("without facts", 0, Scene.NO_FACTS.make().common());
        due("without people", 1, Scene.NO_PEOPLE.make().common());
        due("all of eight", 255, Check.landed("world 1 1 1;" + "fact:1=1;".repeat(8) + "person;").common());
        due("one of eight", 64, Scene.FULL.make().common());
        due("none along a row", 0, Check.landed(LADDER).common());
    }

    private static void reachSteps() {
        Sentences.said(22, "WORLDS to which one can come from the TRUE one in n STEPS (1 to 20), as bits.");
        KnowsLeast k = Check.landed(LADDER);
        for (int n = 1; n <= 20; n++) {
            due("reach(" + n + ")", (1 << Math.min(n + 1, 16)) - 1, k.reach(n));
        }
        due("one world alone: reach(20)", 1, Check.landed("world 1 1 1;person;").reach(20));
    }

    private static void reachOutside() {
        Sentences.said(22, "-3; -5.");
        Sentences.refusedOutside(Scene.BUSY, "reach(#)", -3, 1, 20, (k, n) -> k.reach(n));
        Sentences.refusedOutside(Scene.FULL, "reach(#)", -3, 1, 20, (k, n) -> k.reach(n));
        Sentences.refusedOutside(Scene.NO_WORLDS, "reach(#)", -3, 1, 20, (k, n) -> k.reach(n));
    }

    private static void reachNotNow() {
        Sentences.said(22, "-5.");
        Sentences.leaves(Scene.NEW, "reach(1)", -5, k -> k.reach(1));
        Sentences.leaves(Scene.NO_WORLDS, "reach(20)", -5, k -> k.reach(20));
    }

    private static void togetherOthers() {
        Sentences.said(23, "-3: it has others");
        KnowsLeast k = Scene.FULL.make();
        due("nobody: together(0)", 0xffff, k.together(0));
        due("the last: together(32)", 0xffff, k.together(32));
        due("all six: together(63)", 0x8000, k.together(63));
        due("all three: together(7)", 8, Scene.BUSY.make().together(7));
        Sentences.refusedOutside(Scene.FULL, "together(#)", -3, 0, 63, (x, set) -> x.together(set));
        Sentences.refusedOutside(Scene.BUSY, "together(#)", -3, 0, 7, (x, set) -> x.together(set));
        Sentences.refusedOutside(Scene.NO_PEOPLE, "together(#)", -3, 0, 0, (x, set) -> x.together(set));
        Sentences.leaves(Scene.NO_WORLDS, "together(4), others ahead of no worlds", -3, x -> x.together(4));
        Sentences.leaves(Scene.NEW, "together(1), others ahead of no worlds", -3, x -> x.together(1));
    }

    private static void togetherNotNow() {
        Sentences.said(23, "-5.");
        Sentences.leaves(Scene.NEW, "together(0)", -5, k -> k.together(0));
        Sentences.leaves(Scene.NO_WORLDS, "together(3)", -5, k -> k.together(3));
    }

    private static void witnessesNotEvenAll() {
        Sentences.said(24, "NONE: not even all");
        StringBuilder text = new StringBuilder("world 0 0 0;");
        for (int i = 1; i <= 6; i++) {
            text.append("world ").append(i).append(" 0 0 guilty;fact:a=").append(i).append(";");
        }
        String people = "person told 0;person told 1;person told 2;person told 3;person told 4;";
        // each guilty world is ruled out by one person alone
        due("all six", 63, Check.landed(text + people + "person told 5;").witnesses());
        Sentences.leaves(Scene.BUSY, "witnesses(), one", 4, KnowsLeast::witnesses);
        due("not even all six", -1, Check.landed(text + people + "person;").witnesses());
        Sentences.leaves(Scene.NO_PEOPLE, "witnesses(), of nobody", -1, KnowsLeast::witnesses);
        due("nobody is needed", 0, Check.landed("world 1 1 1;world 2 2 2;").witnesses());
        due("nobody is needed of six", 0, Check.landed("world 1 1 1 guilty;" + "person;".repeat(6)).witnesses());
    }

    private static void witnessesNotNow() {
        Sentences.said(24, "-5.");
        Sentences.leaves(Scene.NEW, "witnesses()", -5, KnowsLeast::witnesses);
        Sentences.leaves(Scene.NO_WORLDS, "witnesses()", -5, KnowsLeast::witnesses);
    }

    private static void partingNone() {
        Sentences.said(25, "-2.");
        KnowsLeast k = Scene.FULL.make();
        due("the last from itself: parting(5, 5)", 0, k.parting(5, 5));
        due("who knows all from who knows one: parting(4, 5)", 191, k.parting(4, 5));
        due("the other way: parting(5, 4)", 191, k.parting(5, 4));
        due("without worlds: parting(0, 1)", 0, Scene.NO_WORLDS.make().parting(0, 1));
        Sentences.refusedOutside(Scene.FULL, "parting(#, 5)", -2, 0, 5, (x, p) -> x.parting(p, 5));
        Sentences.refusedOutside(Scene.FULL, "parting(5, #)", -2, 0, 5, (x, p) -> x.parting(5, p));
        Sentences.refusedOutside(Scene.BUSY, "parting(#, 0)", -2, 0, 2, (x, p) -> x.parting(p, 0));
        Sentences.refusedOutside(Scene.BUSY, "parting(0, #)", -2, 0, 2, (x, p) -> x.parting(0, p));
        Sentences.leaves(Scene.NO_PEOPLE, "parting(0, 0)", -2, x -> x.parting(0, 0));
    }

    private static void measureNone() {
        Sentences.said(26, "-2: the PERSON, the MEASURE (0 to 3).");
        KnowsLeast k = Scene.FULL.make();
        // sixteen worlds, four of them guilty, one of weight 9; but one of eight facts known
        int[] last = {16, 4, 24, 7};
        int[] knowing = {1, 0, 9, 0};
        for (int m = 0; m < 4; m++) {
            due("measure(5, " + m + ")", last[m], k.measure(5, m));
            due("measure(4, " + m + ")", knowing[m], k.measure(4, m));
            due("without worlds: measure(1, " + m + ")", 0, Scene.NO_WORLDS.make().measure(1, m));
        }
        Sentences.refusedOutside(Scene.FULL, "measure(#, 3)", -2, 0, 5, (x, p) -> x.measure(p, 3));
        Sentences.refusedOutside(Scene.FULL, "measure(5, #)", -2, 0, 3, (x, m) -> x.measure(5, m));
        Sentences.refusedOutside(Scene.BUSY, "measure(#, 0)", -2, 0, 2, (x, p) -> x.measure(p, 0));
        Sentences.leaves(Scene.NO_PEOPLE, "measure(0, 0)", -2, x -> x.measure(0, 0));
    }

    private static void leastNobody() {
        Sentences.said(27, "NONE: no PEOPLE");
        for (int i = 0; i < 4; i++) {
            int m = i;
            Sentences.leaves(Scene.NEW, "least(" + i + ")", -1, k -> k.least(m));
            Sentences.leaves(Scene.NO_PEOPLE, "least(" + i + ")", -1, k -> k.least(m));
            due("one alone: least(" + i + ")", 0, Check.landed("person;").least(m));
        }
    }

    private static void leastNone() {
        Sentences.said(27, "-2.");
        for (Scene scene : new Scene[] {Scene.BUSY, Scene.FULL, Scene.NO_PEOPLE}) {
            Sentences.refusedOutside(scene, "least(#)", -2, 0, 3, (k, m) -> k.least(m));
        }
        due("the last measure: least(3)", 0, Scene.FULL.make().least(3));
    }

    private static void seatsNone() {
        Sentences.said(28, "-2.");
        KnowsLeast k = Scene.FULL.make();
        due("in all sixteen: seats(0, 0)", 16, k.seats(0, 0));
        due("in none: seats(5, 3)", 0, k.seats(5, 3));
        due("without worlds: seats(1, 3)", 0, Scene.NO_WORLDS.make().seats(1, 3));
        Sentences.refusedOutside(Scene.FULL, "seats(#, 3)", -2, 0, 5, (x, p) -> x.seats(p, 3));
        Sentences.refusedOutside(Scene.FULL, "seats(5, #)", -2, 0, 3, (x, m) -> x.seats(5, m));
        Sentences.refusedOutside(Scene.BUSY, "seats(#, 0)", -2, 0, 2, (x, p) -> x.seats(p, 0));
        Sentences.leaves(Scene.NO_PEOPLE, "seats(0, 0)", -2, x -> x.seats(0, 0));
    }

    private static void differNone() {
        Sentences.said(29, "-2: a MEASURE.");
        due("with more by both", 0, Scene.FULL.make().differ(0, 3));
        due("nobody", 0, Scene.NO_PEOPLE.make().differ(0, 3));
        due("without worlds", 0, Scene.NO_WORLDS.make().differ(0, 3));
        KnowsLeast pairs = Check.landed("world 0 0 0 weight 9;world 1 1 0;world 1 0 0;world 1 1 1;fact:a=0 or b=1 and c=0;"
                + "fact:a=0;person told 0;person told 0;person told 0;person told 1;person told 1;person told 1;true 1;");
        // true is 1: 0 to 2 hold 0 1 (weight 10), 3 to 5 hold 1 2 3 (weight 3)
        due("nine pairs", 9, pairs.differ(0, 2));
        due("nine pairs, the other way", 9, pairs.differ(2, 0));
        due("the same measure", 0, pairs.differ(2, 2));
        Sentences.refusedOutside(Scene.FULL, "differ(#, 3)", -2, 0, 3, (x, m) -> x.differ(m, 3));
        Sentences.refusedOutside(Scene.FULL, "differ(3, #)", -2, 0, 3, (x, m) -> x.differ(3, m));
        Sentences.refusedOutside(Scene.NEW, "differ(#, 0)", -2, 0, 3, (x, m) -> x.differ(m, 0));
        Sentences.refusedOutside(Scene.NEW, "differ(0, #)", -2, 0, 3, (x, m) -> x.differ(0, m));
    }

    private static void shownNot() {
        Sentences.said(30, "NONE: it is not the LEAST by MEASURE 0, or no questions show it");
        Sentences.leaves(Scene.FULL, "shown(1, 0), who knows more", -1, k -> k.shown(1, 0));
        Sentences.leaves(Scene.FULL, "shown(5, 0), as many but not the first", -1, k -> k.shown(5, 0));
        Sentences.leaves(Scene.FULL, "shown(5, 15), as many but not the first", -1, k -> k.shown(5, 15));
        // what one knows tells how many one holds, so that the least is shown by all questions, or fewer
        KnowsLeast one = Check.landed("world 1 1 1;world 2 2 2;fact:a=1;person told 0;person;");
        due("the least: shown(1, 0)", 1, one.shown(1, 0));
        due("the least set to the first: shown(1, 10)", 0, one.shown(1, 10));
        due("then to the other: shown(1, 11)", 1, one.shown(1, 11));
        due("not the least: shown(0, 0)", -1, one.shown(0, 0));
        due("one alone, without a question", 0, Check.landed("world 1 1 1;world 2 2 2;fact:a=1;person;").shown(0, 0));
        due("nothing to ask", 0, Check.landed("world 0 0 0;world 1 0 0;fact:1=1;person;person;").shown(0, 0));
        due("without facts", 0, Scene.NO_FACTS.make().shown(0, 0));
        due("without worlds", 0, Scene.NO_WORLDS.make().shown(0, 0));
        // true is 0, 0 holds three worlds, 1 two: 1 knows fact 1, so has two at most, and 0 can't have fewer
        KnowsLeast three = Check.landed("world 0 0 0;world 1 0 0;world 2 0 0;world 3 0 0;fact:a<3;fact:a<2;"
                + "person told 0;person told 1;");
        due("three against two: shown(0, 0)", 1, three.shown(0, 0));
        due("three against two: shown(0, 10)", 0, three.shown(0, 10));
        due("three against two: shown(0, 11)", 2, three.shown(0, 11));
    }

    private static void shownNone() {
        Sentences.said(30, "-2: the PERSON, what.");
        Sentences.refusedOutside(Scene.FULL, "shown(#, 0)", -2, 0, 5, (x, p) -> x.shown(p, 0));
        Sentences.refusedOutside(Scene.BUSY, "shown(#, 0)", -2, 0, 2, (x, p) -> x.shown(p, 0));
        for (int what : new int[] {-1, 1, 2, 9, 16, 10 + 256, -10, Sentences.LOW, Sentences.LOW + 10, Sentences.HIGH}) {
            Sentences.leaves(Scene.FULL, "shown(0, " + what + ")", -2, x -> x.shown(0, what));
            Sentences.leaves(Scene.FULL, "shown(5, " + what + "), ahead of NONE", -2, x -> x.shown(5, what));
        }
        Sentences.leaves(Scene.BUSY, "shown(0, 13), of no such person", -2, x -> x.shown(0, 13));
        Sentences.leaves(Scene.BUSY, "shown(2, 9)", -2, x -> x.shown(2, 9));
        Sentences.leaves(Scene.NO_PEOPLE, "shown(0, 0)", -2, x -> x.shown(0, 0));
        // 0 holds all worlds if it was told none of 0 1 2 7, which no other fact tells
        KnowsLeast k = Scene.FULL.make();
        due("how many: shown(0, 0)", 4, k.shown(0, 0));
        due("of the first: shown(0, 10)", 135, k.shown(0, 10));
        due("of the last: shown(0, 15)", 0, k.shown(0, 15));
    }

    private static void appealsEdges() {
        Sentences.said(31, "APPEALS, what 0: how many, 1: where it ends.");
        // each holds twice as many as the one before: five appeals are the most that six people allow
        KnowsLeast k = Check.landed("world 0 0 0;world 1 0 0;world 2 0 0;world 3 0 0;world 4 0 0;world 5 0 0;fact:a<1;fact:a<2;"
                + "fact:a<3;fact:a<4;fact:a<5;person told 0;person told 1;person told 2;person told 3;person told 4;person;");
        for (int p = 0; p < 6; p++) {
            due("appeals(" + p + ", 0, 0)", 5 - p, k.appeals(p, 0, 0));
            due("appeals(" + p + ", 0, 1)", 5, k.appeals(p, 0, 1));
            due("nobody has more: appeals(" + p + ", 1, 0)", 0, k.appeals(p, 1, 0));
            due("nobody has more: appeals(" + p + ", 1, 1)", p, k.appeals(p, 1, 1));
        }
        // the other way round, with one who holds as many as the next
        KnowsLeast down = Check.landed("world 0 0 0;world 1 0 0;world 2 0 0;world 3 0 0;world 4 0 0;fact:a<1;fact:a<2;"
                + "fact:a<3;fact:a<4;person;person told 3;person told 2;person told 2;person told 1;person told 0;");
        int[] many = {0, 1, 2, 2, 3, 4};
        for (int p = 0; p < 6; p++) {
            due("the other way: appeals(" + p + ", 0, 0)", many[p], down.appeals(p, 0, 0));
            due("the other way: appeals(" + p + ", 0, 1)", 0, down.appeals(p, 0, 1));
        }
        KnowsLeast like = Check.landed("world 0 0 0;world 1 0 0;fact:a=0;person told 0;person;person;");
        due("of like ones the first: appeals(0, 0, 1)", 1, like.appeals(0, 0, 1));
        due("one alone", 0, Check.landed("world 1 1 1;person;").appeals(0, 0, 0));
        due("without worlds", 1, Scene.NO_WORLDS.make().appeals(1, 0, 1));
    }

    private static void appealsNone() {
        Sentences.said(31, "-2: the PERSON, the MEASURE, what.");
        Sentences.refusedOutside(Scene.FULL, "appeals(#, 3, 1)", -2, 0, 5, (x, p) -> x.appeals(p, 3, 1));
        Sentences.refusedOutside(Scene.FULL, "appeals(5, #, 1)", -2, 0, 3, (x, m) -> x.appeals(5, m, 1));
        Sentences.refusedOutside(Scene.FULL, "appeals(5, 3, #)", -2, 0, 1, (x, what) -> x.appeals(5, 3, what));
        Sentences.refusedOutside(Scene.BUSY, "appeals(#, 0, 0)", -2, 0, 2, (x, p) -> x.appeals(p, 0, 0));
        Sentences.leaves(Scene.NO_PEOPLE, "appeals(0, 0, 0)", -2, x -> x.appeals(0, 0, 0));
    }
}
