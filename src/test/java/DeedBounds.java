/** Bounds that promises 11 to 18 name: deeds, what is undone, deeds in rows, years. */
final class DeedBounds {
    private DeedBounds() {
    }

    static void all() {
        tellNone();
        askKnew();
        askNone();
        daysOneToSixty();
        daysOutside();
        isTrueNone();
        undoOneToTwelve();
        undoMore();
        judgeFirstThatCannot();
        judgeHowMany();
        judgeLeast();
        judgeHowOften();
        judgeNoRow();
        judgeMissing();
        performTill();
        performNoRow();
        performMissing();
        yearLeast();
        yearTimes();
        yearNotNow();
    }

    private static void due(String call, long want, long got) {
        Sentences.due(call, want, got);
    }

    private static void tellNone() {
        Sentences.said(11, "-2.");
        KnowsLeast k = Check.landed(Scene.fullText());
        due("the first: tell(0, 0)", 8, k.tell(0, 0));
        due("the last: tell(5, 7)", 8, k.tell(5, 7));
        due("told to the last", 192, k.person(5, 0));
        due("again: tell(5, 7)", 8, k.tell(5, 7));
        due("each can be undone", 3, k.count(4));
        due("without worlds: tell(1, 1)", 0, Scene.NO_WORLDS.make().tell(1, 1));
        Sentences.refusedOutside(Scene.FULL, "tell(#, 7)", -2, 0, 5, (x, p) -> x.tell(p, 7));
        Sentences.refusedOutside(Scene.FULL, "tell(5, #)", -2, 0, 7, (x, f) -> x.tell(5, f));
        Sentences.refusedOutside(Scene.BUSY, "tell(#, 2)", -2, 0, 2, (x, p) -> x.tell(p, 2));
        Sentences.refusedOutside(Scene.BUSY, "tell(2, #)", -2, 0, 2, (x, f) -> x.tell(2, f));
        Sentences.leaves(Scene.NO_PEOPLE, "tell(0, 0)", -2, x -> x.tell(0, 0));
        Sentences.leaves(Scene.NO_FACTS, "tell(0, 0)", -2, x -> x.tell(0, 0));
    }

    private static void askKnew() {
        Sentences.said(12, "To ASK: 1 if it KNEW it, else 0.");
        KnowsLeast k = Check.landed(Scene.fullText());
        due("it didn't, ahead of its hint: ask(5, 7)", 0, k.ask(5, 7));
        due("told by the hints", 193, k.person(5, 0));
        due("now it does: ask(5, 7)", 1, k.ask(5, 7));
        due("what holds everywhere: ask(0, 6)", 1, k.ask(0, 6));
        due("each can be undone", 3, k.count(4));
    }

    private static void askNone() {
        Sentences.said(12, "-2.");
        due("without worlds: ask(1, 1)", 1, Scene.NO_WORLDS.make().ask(1, 1));
        Sentences.refusedOutside(Scene.FULL, "ask(#, 7)", -2, 0, 5, (x, p) -> x.ask(p, 7));
        Sentences.refusedOutside(Scene.FULL, "ask(5, #)", -2, 0, 7, (x, f) -> x.ask(5, f));
        Sentences.refusedOutside(Scene.BUSY, "ask(#, 1)", -2, 0, 2, (x, p) -> x.ask(p, 1));
        Sentences.refusedOutside(Scene.BUSY, "ask(0, #)", -2, 0, 2, (x, f) -> x.ask(0, f));
        Sentences.leaves(Scene.NO_PEOPLE, "ask(0, 0)", -2, x -> x.ask(0, 0));
        Sentences.leaves(Scene.NO_FACTS, "ask(0, 0)", -2, x -> x.ask(0, 0));
    }

    private static void daysOneToSixty() {
        Sentences.said(13, "n DAYS (1 to 60): how many PEOPLE were TOLD some FACT that they had not been TOLD.");
        // told are none, 0, 0 7, 0 7 1, 0 7 1 2, 6
        int[] first = {1, 129, 131, 135, 199, 199};
        KnowsLeast one = Check.landed(Scene.fullText());
        due("days(1)", 6, one.days(1));
        KnowsLeast sixty = Check.landed(Scene.fullText());
        due("days(60)", 6, sixty.days(60));
        for (int p = 0; p < 6; p++) {
            due("told to " + p + " by a day", first[p], one.person(p, 0));
            due("told to " + p + " by sixty", 199, sixty.person(p, 0));
        }
        due("nobody more: days(60)", 0, sixty.days(60));
        KnowsLeast four = Check.landed(Scene.fullText());
        four.days(4);
        due("one is left behind four days: days(1)", 1, four.days(1));
        due("nobody: days(1)", 0, new KnowsLeast().days(1));
        due("nobody: days(60)", 0, new KnowsLeast().days(60));
    }

    private static void daysOutside() {
        Sentences.said(13, "-3.");
        for (Scene scene : new Scene[] {Scene.NEW, Scene.BUSY, Scene.FULL}) {
            Sentences.refusedOutside(scene, "days(#)", -3, 1, 60, (k, n) -> k.days(n));
        }
    }

    private static void isTrueNone() {
        Sentences.said(14, "-2.");
        KnowsLeast k = Scene.FULL.make();
        due("the first: isTrue(0)", 15, k.isTrue(0));
        due("the last: isTrue(15)", 0, k.isTrue(15));
        due("what was: isTrue(15)", 15, k.isTrue(15));
        Sentences.refusedOutside(Scene.FULL, "isTrue(#)", -2, 0, 15, (x, w) -> x.isTrue(w));
        Sentences.refusedOutside(Scene.BUSY, "isTrue(#)", -2, 0, 3, (x, w) -> x.isTrue(w));
        Sentences.refusedOutside(Scene.NEW, "isTrue(#)", -2, 0, -1, (x, w) -> x.isTrue(w));
        Sentences.leaves(Scene.NO_WORLDS, "isTrue(0)", -2, x -> x.isTrue(0));
    }

    private static void undoOneToTwelve() {
        Sentences.said(15, "n calls (1 to 12) are UNDONE: how many still can be.");
        // worlds 0 to 10, then 15 were true one behind the other, 15 at first
        int[] was = {10, 9, 8, 7, 6, 5, 4, 3, 2, 1, 0, 15};
        for (int n = 1; n <= 12; n++) {
            KnowsLeast k = Scene.FULL.make();
            due("undo(" + n + ") of 12", 12 - n, k.undo(n));
            due("true then", was[n - 1], k.count(3));
            due("that many can be", 12 - n, k.count(4));
        }
        KnowsLeast all = Scene.BUSY.make();
        due("all three: undo(3)", 0, all.undo(3));
        due("true at first", 1, all.count(3));
        due("told at first", 0, all.person(2, 0));
    }

    private static void undoMore() {
        Sentences.said(15, "-3: n, more than can be.");
        Sentences.refusedOutside(Scene.FULL, "undo(#)", -3, 1, 12, (k, n) -> k.undo(n));
        Sentences.refusedOutside(Scene.BUSY, "undo(#)", -3, 1, 3, (k, n) -> k.undo(n));
        Sentences.leaves(Scene.NEW, "undo(1)", -3, k -> k.undo(1));
        Sentences.leaves(Scene.BUSY, "undo(12)", -3, k -> k.undo(12));
        KnowsLeast k = Scene.FULL.make();
        k.undo(12);
        due("none is left: undo(1)", -3, k.undo(1));
    }

    /** The village, with a row of as many numbers: days, but for one number at a place. */
    private static KnowsLeast withDays(int length, int place, long number) {
        KnowsLeast k = Check.landed(Scene.VILLAGE);
        k.numbers(0, 3, length);
        for (int i = 0; i < length; i++) {
            k.write(0, i, i == place ? number : -1);
        }
        return k;
    }

    private static void judgeFirstThatCannot() {
        Sentences.said(16, "what 0: the first place that can't be (NONE)");
        due("the first", 0, withDays(40, 0, 99).judge(0, 0));
        due("the last of forty", 39, withDays(40, 39, 99).judge(0, 0));
        due("none of forty", -1, withDays(40, 39, 22).judge(0, 0));
        due("none of none", -1, withDays(0, 0, 99).judge(0, 0));
        due("the first of two", 7, bothWrong().judge(0, 0));
    }

    private static KnowsLeast bothWrong() {
        KnowsLeast k = withDays(40, 7, 99);
        k.write(0, 8, -2);
        return k;
    }

    private static void judgeHowMany() {
        Sentences.said(16, "1: how many can be from the first on");
        due("not the first", 0, withDays(40, 0, 99).judge(0, 1));
        due("all but the last of forty", 39, withDays(40, 39, 99).judge(0, 1));
        due("all forty", 40, withDays(40, 39, 22).judge(0, 1));
        due("none of none", 0, withDays(0, 0, 99).judge(0, 1));
        due("none behind the first that can't", 7, bothWrong().judge(0, 1));
    }

    /** In the true world 0 holds two worlds, one of them guilty, of weight 10; 1 holds three, none guilty. */
    private static final String MEASURES = "world 0 0 0 weight 9 guilty;world 1 1 0;world 1 0 0;world 1 1 1;"
            + "fact:a=0 or b=1 and c=0;fact:a=0;person told 0;person told 1;true 1;";

    private static void judgeLeast() {
        Sentences.said(16, "2: the LEAST by MEASURE 0 then (NONE without PEOPLE)");
        Sentences.leaves(Scene.NO_PEOPLE, "judge(0, 2)", -1, k -> k.judge(0, 2));
        Sentences.leaves(Scene.NO_PEOPLE, "judge(2, 2)", -1, k -> k.judge(2, 2));
        due("of deeds none of which can be", 2, withDays(40, 0, 99).judge(0, 2));
        due("of none", 2, withDays(0, 0, 99).judge(0, 2));
        // told 0, person 2 holds two worlds, as 0 and 1 do; behind what can't be nothing is done
        due("of one that can be", 0, withDays(1, 0, 20).judge(0, 2));
        KnowsLeast k = Check.landed(Scene.VILLAGE);
        Check.row(k, 0, 3, 99, 20);
        due("of one behind what can't be", 2, k.judge(0, 2));
        // 1 holds more worlds, 0 more of both kinds, more weight
        KnowsLeast by = Check.landed(MEASURES);
        by.numbers(0, 0, 0);
        due("by how many worlds, not by others", 1, by.judge(0, 2));
        Sentences.leaves(Scene.BUSY, "judge(0, 2), as if done", 0, x -> x.judge(0, 2));
    }

    private static void judgeHowOften() {
        Sentences.said(16, "3: how often someone who was ASKED KNEW it.");
        KnowsLeast k = Check.landed(Scene.VILLAGE);
        k.numbers(0, 0, 40);
        for (int i = 0; i < 40; i++) {
            k.write(0, i, 100);
        }
        due("all forty times", 40, k.judge(0, 3));
        k.write(0, 0, 102);
        due("39 times", 39, k.judge(0, 3));
        k.write(0, 1, 99);
        due("not once ahead of what can't be", 0, k.judge(0, 3));
        due("of no deeds", 0, withDays(0, 0, 0).judge(0, 3));
        due("of days alone", 0, withDays(40, 0, 0).judge(0, 3));
        Sentences.leaves(Scene.BUSY, "judge(0, 3), as if done", 1, x -> x.judge(0, 3));
    }

    private static void judgeNoRow() {
        Sentences.said(16, "-2: the ROW, what");
        Sentences.refusedOutside(Scene.BUSY, "judge(#, 0)", -2, 0, 3, (k, row) -> k.judge(row, 0));
        Sentences.refusedOutside(Scene.BUSY, "judge(0, #)", -2, 0, 3, (k, what) -> k.judge(0, what));
        Sentences.refusedOutside(Scene.FULL, "judge(#, 3)", -2, 0, 3, (k, row) -> k.judge(row, 3));
        Sentences.leaves(Scene.BUSY, "judge(3, 4), what ahead of missing", -2, k -> k.judge(3, 4));
        due("the last row: judge(3, 0)", 39, Scene.FULL.make().judge(3, 0));
    }

    private static void judgeMissing() {
        Sentences.said(16, "-6.");
        for (int i = 0; i < 4; i++) {
            int what = i;
            Sentences.leaves(Scene.BUSY, "judge(3, " + i + ")", -6, k -> k.judge(3, what));
            Sentences.leaves(Scene.NEW, "judge(" + i + ", 0)", -6, k -> k.judge(what, 0));
        }
    }

    private static void performTill() {
        Sentences.said(17, "They are done, till one can't be: how many.");
        KnowsLeast none = withDays(40, 0, 99);
        due("none of forty", 0, none.perform(0));
        due("nothing to undo", 0, none.count(4));
        KnowsLeast empty = withDays(0, 0, 99);
        due("none of none", 0, empty.perform(0));
        due("nothing to undo by none", 0, empty.count(4));
        KnowsLeast last = withDays(40, 39, 99);
        due("all but the last of forty", 39, last.perform(0));
        KnowsLeast all = withDays(40, 39, 22);
        due("all forty", 40, all.perform(0));
        due("the last is done", 4, all.person(2, 0));
        due("as a whole", 1, all.count(4));
        KnowsLeast k = Check.landed(Scene.VILLAGE);
        Check.row(k, 0, 0, 20, 99, 21);
        due("one ahead of what can't be", 1, k.perform(0));
        due("nothing behind it is done", 1, k.person(2, 0));
        Sentences.leaves(Scene.BUSY, "perform(2), an empty row", 0, x -> x.perform(2));
    }

    private static void performNoRow() {
        Sentences.said(17, "-2; -6.");
        Sentences.refusedOutside(Scene.BUSY, "perform(#)", -2, 0, 3, (k, row) -> k.perform(row));
        Sentences.refusedOutside(Scene.FULL, "perform(#)", -2, 0, 3, (k, row) -> k.perform(row));
        due("the last row: perform(3)", 39, Scene.FULL.make().perform(3));
    }

    private static void performMissing() {
        Sentences.said(17, "-6.");
        Sentences.leaves(Scene.BUSY, "perform(3)", -6, k -> k.perform(3));
        Sentences.leaves(Scene.NEW, "perform(0)", -6, k -> k.perform(0));
    }

    private static void yearTimes() {
        Sentences.said(18, "-3: how many times");
        for (Scene scene : new Scene[] {Scene.BUSY, Scene.FULL, Scene.NEW}) {
            Sentences.refusedOutside(scene, "year(1, #)", -3, 1, 60, (k, times) -> k.year(1, times));
        }
        KnowsLeast k = Check.landed("world 1 1 1;fact:1=1;person;");
        due("once", 0, k.year(Sentences.LOW, 1));
        due("sixty times", 0, k.year(Sentences.HIGH, 60));
        due("each as a whole", 2, k.count(4));
    }

    private static void yearLeast() {
        Sentences.said(18, "A YEAR: the LEAST by MEASURE 0 then.");
        // a year by which nobody is told more and the same is true, as days have no roads
        for (int seed = 0; seed < 200; seed++) {
            KnowsLeast k = Check.landed(MEASURES);
            int least = k.year(seed, 1);
            boolean same = k.count(3) == 1 && k.person(0, 0) == 1 && k.person(1, 0) == 2;
            if (same) {
                due("year(" + seed + ", 1) by which nothing is otherwise", 1, least);
            }
        }
    }

    private static void yearNotNow() {
        Sentences.said(18, "-5: no WORLDS, PEOPLE, FACTS.");
        for (Scene scene : new Scene[] {Scene.NEW, Scene.NO_WORLDS, Scene.NO_PEOPLE, Scene.NO_FACTS}) {
            Sentences.leaves(scene, "year(1, 1)", -5, k -> k.year(1, 1));
            Sentences.leaves(scene, "year(1, 60)", -5, k -> k.year(1, 60));
            Sentences.leaves(scene, "year(1, 61)", -3, k -> k.year(1, 61));
        }
        due("one of each", 0, Check.landed("world 1 1 1;fact:1=1;person;").year(1, 1));
    }
}
