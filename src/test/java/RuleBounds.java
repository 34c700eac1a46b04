import java.math.BigInteger;
import java.util.function.ToLongFunction;

/** Bounds that the document's Terms name beyond the land's text: truths, deeds, the past, steps, draws, rows, codes. */
final class RuleBounds {
    /** 999,999, and by one more 1,000,000. */
    private static final String NEARLY = "999*999+999+999";
    private static final String MILLION = NEARLY + "+1";

    private RuleBounds() {
    }

    static void all() {
        guiltyOneOrNought();
        eachSignKept();
        trueIfThereAreSome();
        inTheTrueOne();
        withoutWorldsKnown();
        deedsThatCannotBe();
        undoneEachCall();
        undoneTwelve();
        leastTheFirst();
        noStepWithoutPeople();
        depthNought();
        togetherOfNobody();
        partiesMayChooseNone();
        newsNeverOrNow();
        latestNever();
        askedOneToEight();
        year();
        drawWrapsAround();
        rowsMissingAtFirst();
        rowsOfNumbers();
        imagesNoneAtFirst();
        refusedChangesNothing();
        probeSeesChanges();
        codesInOrder();
        objectOf512Calls();
    }

    private static void said(String words) {
        Sentences.said(Sentences.TERMS, words);
    }

    private static void due(String call, long want, long got) {
        Sentences.due(call, want, got);
    }

    private static void holds(String truth, int want) {
        due(truth, want, Check.landed("world 0 0 0;fact:" + truth + ";").fact(0));
    }

    private static void guiltyOneOrNought() {
        said("guilty: 1 or 0");
        KnowsLeast k = Check.landed("world 1 1 1;world 1 1 1 guilty;fact:guilty=0;fact:guilty=1;fact:guilty>1;");
        due("guilty is 0", 1, k.fact(0));
        due("guilty is 1", 2, k.fact(1));
        due("guilty is more", 0, k.fact(2));
    }

    private static void eachSignKept() {
        said("each + - * kept from -1,000,000 to 1,000,000.");
        holds(NEARLY + "<" + MILLION, 1);
        holds(MILLION + "=(999+1)*(999+1)", 1);
        holds(MILLION + "+1=" + MILLION, 1);
        holds(MILLION + "+999>" + MILLION, 0);
        // what is beyond is lost at each sign
        holds(MILLION + "+999-1=" + NEARLY, 1);
        holds(MILLION + "+(1-1)=" + MILLION, 1);
        holds("(999+1)*(999+2)=" + MILLION, 1);
        holds("(999+1)*(999+2)-1=" + NEARLY, 1);
        holds("0-(" + NEARLY + ")>0-(" + MILLION + ")", 1);
        holds("0-(" + MILLION + ")-1=0-(" + MILLION + ")", 1);
        holds("0-(" + MILLION + ")-999+1=0-(" + NEARLY + ")", 1);
        holds("(0-999-1)*(999+1)=0-(" + MILLION + ")", 1);
        holds("(0-999-1)*(999+2)=0-(" + MILLION + ")", 1);
        holds("(0-999-1)*(999+2)+1=0-(" + NEARLY + ")", 1);
        holds("0-(" + MILLION + ")+(" + MILLION + ")=0", 1);
        holds("0-(" + MILLION + ")-(" + MILLION + ")=0-(" + MILLION + ")", 1);
        // a million times a million is more than an int has
        holds("(" + MILLION + ")*(" + MILLION + ")=" + MILLION, 1);
        holds("(" + MILLION + ")*(0-(" + MILLION + "))=0-(" + MILLION + ")", 1);
        holds("(0-(" + MILLION + "))*(0-(" + MILLION + "))=" + MILLION, 1);
        holds("999*999*999*999*999*0=0", 1);
    }

    private static void trueIfThereAreSome() {
        said("One WORLD is TRUE (if there are some).");
        due("of none", -1, new KnowsLeast().count(3));
        due("of none in a land", -1, Scene.NO_WORLDS.make().count(3));
        due("of one", 0, Check.landed("world 1 1 1;").count(3));
        due("of sixteen, the last", 15, Scene.FULL.make().count(3));
    }

    private static void inTheTrueOne() {
        said("without more: in the TRUE one.");
        KnowsLeast k = Scene.FULL.make();
        for (int w = 0; w < 16; w++) {
            k.isTrue(w);
            due("person(1, 1) in " + w, w < 8 ? 0xff : 0xff00, k.person(1, 1));
            due("cell(1, 15), as if that were true", 0xff00, k.cell(1, 15));
        }
    }

    private static void withoutWorldsKnown() {
        said("(Without WORLDS one KNOWS that each FACT holds, and THE GUILT.)");
        KnowsLeast k = Scene.NO_WORLDS.make();
        for (int p = 0; p < 2; p++) {
            for (int f = 0; f < 2; f++) {
                due("knows(" + p + ", " + f + ")", 1, k.knows(p, f));
                due("ask(" + p + ", " + f + ")", 1, k.ask(p, f));
            }
            due("person(" + p + ", 1)", 0, k.person(p, 1));
            due("person(" + p + ", 2)", 3, k.person(p, 2));
            due("person(" + p + ", 3)", 1, k.person(p, 3));
        }
        due("with one world a fact need not hold", 0, Check.landed("world 1 1 1;fact:1=2;person;").knows(0, 0));
    }

    /** Whether a number in a row of 64 bits is a deed that can be. */
    private static int canBe(KnowsLeast k, long deed) {
        Check.row(k, 0, 3, deed);
        return k.judge(0, 1);
    }

    private static void deedsThatCannotBe() {
        said("10 times the PERSON, and the FACT: it is TOLD; 100 more: it is ASKED; NONE: a DAY. It can't be: no such PERSON"
                + " (0 to 5), FACT (0 to 7), number (1).");
        KnowsLeast all = new KnowsLeast();
        Check.land(all, Scene.fullText());
        for (int deed = -3; deed < 140; deed++) {
            boolean can = deed == -1 || deed >= 0 && deed % 100 / 10 <= 5 && deed % 10 <= 7;
            due("deed " + deed + " of six people, eight facts", can ? 1 : 0, canBe(all, deed));
        }
        long[] can = {0, 7, 50, 57, 100, 107, 150, 157, -1};
        long[] cannot = {8, 9, 17 + 1, 58, 59, 60, 67, 99, 108, 158, 160, 199, 200, 207, 257, 1000, 1 << 16, 1L << 32,
            (1L << 32) - 1, Long.MAX_VALUE, Long.MIN_VALUE, -2, -100, -101, -(1L << 32), -(1L << 32) - 1};
        KnowsLeast k = new KnowsLeast();
        Check.land(k, Scene.fullText());
        for (long deed : can) {
            due("deed " + deed + " can be", 1, canBe(k, deed));
        }
        for (long deed : cannot) {
            due("deed " + deed + " can't be", 0, canBe(k, deed));
        }
        KnowsLeast few = Check.landed(Scene.VILLAGE);
        for (long deed : new long[] {0, 2, 20, 22, 100, 122, -1}) {
            due("deed " + deed + " of three people, three facts", 1, canBe(few, deed));
        }
        for (long deed : new long[] {3, 23, 30, 32, 50, 7, 103, 123, 130}) {
            due("deed " + deed + " of more than three", 0, canBe(few, deed));
        }
        KnowsLeast none = new KnowsLeast();
        due("a day without people", 1, canBe(none, -1));
        due("a telling without people", 0, canBe(none, 0));
        due("a telling without facts", 0, canBe(Check.landed("world 1 1 1;person;"), 0));
    }

    private static void undoneEachCall() {
        said("Each call that does some TELL, ASK, DAY, or tells what is TRUE (whether or not anything is otherwise by it) can be"
                + " UNDONE as a whole, the latest first");
        KnowsLeast k = Check.landed(Scene.VILLAGE);
        k.tell(0, 0);
        due("told what it was told", 1, k.count(4));
        k.ask(0, 0);
        due("asked what hints nothing", 2, k.count(4));
        k.isTrue(1);
        due("true what was", 3, k.count(4));
        k.days(60);
        due("sixty days", 4, k.count(4));
        k.days(1);
        due("a day without news", 5, k.count(4));
        Check.row(k, 0, 0, 20, 21, 22, -1, 120, 99);
        k.perform(0);
        due("five deeds", 6, k.count(4));
        k.year(1, 60);
        due("a year", 7, k.count(4));
        due("the year as a whole", 6, k.undo(1));
        due("told by the deeds", 7, k.person(2, 0));
        due("the deeds as a whole", 5, k.undo(1));
        due("told ahead of the deeds", 0, k.person(2, 0));
        due("told by the days", 3, k.person(0, 0));
        due("the day without news", 4, k.undo(1));
        due("told by the days, still", 3, k.person(0, 0));
        due("the days as a whole", 3, k.undo(1));
        due("told ahead of the days", 1, k.person(0, 0));
        due("all the rest", 0, k.undo(3));
        KnowsLeast none = Check.landed(Scene.VILLAGE);
        Check.row(none, 0, 0);
        none.perform(0);
        due("no deed in an empty row", 0, none.count(4));
        Check.row(none, 0, 0, 99, 0);
        none.perform(0);
        due("no deed that can be", 0, none.count(4));
        none.judge(0, 2);
        none.tell(9, 9);
        none.days(61);
        due("neither judged nor refused ones", 0, none.count(4));
        KnowsLeast nobody = new KnowsLeast();
        nobody.days(1);
        due("a day without people", 1, nobody.count(4));
    }

    private static void undoneTwelve() {
        said("12 at most (eldest are forgotten)");
        KnowsLeast k = Check.landed(Scene.fullText() + "true 0;");
        for (int i = 1; i <= 12; i++) {
            k.isTrue(i);
            due("calls that can be undone behind " + i, i, k.count(4));
        }
        KnowsLeast twelve = Check.landed(Scene.fullText() + "true 0;");
        for (int i = 1; i <= 12; i++) {
            twelve.isTrue(i);
        }
        due("all twelve", 0, twelve.undo(12));
        due("as it was at first", 0, twelve.count(3));
        k.isTrue(13);
        due("the thirteenth", 12, k.count(4));
        k.isTrue(14);
        due("the fourteenth", 12, k.count(4));
        due("thirteen can't be", -3, k.undo(13));
        for (int i = 1; i <= 12; i++) {
            due("one by one, the latest first", 12 - i, k.undo(1));
            due("true behind " + i, 14 - i, k.count(3));
        }
        due("the eldest are forgotten", 2, k.count(3));
        due("none is left", -3, k.undo(1));
        // what all six were told, in each of the twelve
        KnowsLeast told = Check.landed("world 1 1 1;" + "fact:1=1;".repeat(8) + "person;".repeat(6));
        for (int i = 0; i < 13; i++) {
            told.tell(5 - i % 6, i % 8);
        }
        int[] first = {0, 0, 0, 0, 0, 1};
        int[] sixth = {32, 16, 8, 4, 2, 1 + 64};
        due("the latest six", 6, told.undo(6));
        for (int p = 0; p < 6; p++) {
            due("told to " + p + " then", sixth[p], told.person(p, 0));
        }
        due("all that can be", 0, told.undo(6));
        for (int p = 0; p < 6; p++) {
            due("told to " + p + " at first", first[p], told.person(p, 0));
        }
    }

    private static void leastTheFirst() {
        said("LEAST by a MEASURE: who has the most, the first.");
        KnowsLeast alike = Check.landed("world 1 1 1;world 2 2 2;fact:a=1;" + "person;".repeat(6));
        KnowsLeast last = Check.landed("world 1 1 1;world 2 2 2 guilty;fact:a=1;" + "person told 0;".repeat(5) + "person;");
        for (int m = 0; m < 4; m++) {
            due("of six alike by " + m, 0, alike.least(m));
            due("the last of six by " + m, 5, last.least(m));
            due("of nobody by " + m, -1, new KnowsLeast().least(m));
            due("without worlds by " + m, 0, Scene.NO_WORLDS.make().least(m));
        }
    }

    private static void noStepWithoutPeople() {
        said("without PEOPLE to none but itself");
        KnowsLeast k = Check.landed("world 1 1 1;world 2 2 2;fact:a=1;true 1;");
        for (int n = 1; n <= 20; n++) {
            due("reach(" + n + ")", 2, k.reach(n));
        }
        due("everyone(0)", 1, k.everyone(0));
        due("depth(0)", 100, k.depth(0));
        due("common()", 1, k.common());
        due("with someone it is otherwise", 3, Check.landed("world 1 1 1;world 2 2 2;person;").reach(1));
    }

    private static void depthNought() {
        said("(DEPTH 0 always)");
        KnowsLeast k = Check.landed("world 1 1 1;world 2 2 2;fact:a=1;person;");
        due("what nobody knows", 0, k.depth(0));
        due("everyone(0)", 0, k.everyone(0));
    }

    private static void togetherOfNobody() {
        said("(of nobody: all WORLDS)");
        due("of sixteen", 65535, Scene.FULL.make().together(0));
        due("without people", 3, Scene.NO_PEOPLE.make().together(0));
    }

    private static void partiesMayChooseNone() {
        said("or none (NONE; else 10 times the PERSON, and the FACT)");
        KnowsLeast k = Scene.NO_FACTS.make();
        due("without facts the first", -100, k.parties(0, 1, 0, 0));
        due("without facts the other", -100, k.parties(0, 1, 0, 1));
        due("without facts the judge", 0, k.parties(0, 1, 0, 2));
        said("(NONE ahead of others)");
        // each would have it by telling any of the others; both have it by nothing
        KnowsLeast like = Check.landed("world 1 1 1;world 2 2 2;fact:a=1;person;person;");
        due("the first", -100, like.parties(0, 0, 0, 0));
        due("the other", -100, like.parties(0, 0, 0, 1));
        // who wants 1 tells 0; the other may then do what it likes
        due("the first, who wants another", -100, like.parties(1, 1, 0, 0));
        due("the other, who wants another", 0, like.parties(1, 1, 0, 1));
        // the last of six is made the least by its party alone: all others hold as many as it, ahead of it
        String six = "world 1 1 1;world 2 2 2;fact:1=1;fact:1=1;fact:1=1;fact:1=1;fact:1=1;fact:1=1;fact:1=1;fact:a=1;"
                + "person;person told 7;person told 7;person told 7;person told 7;person;";
        KnowsLeast last = Check.landed(six);
        due("the last of eight facts", 7, last.parties(5, 5, 0, 1));
        due("the last of six judges", 5, last.parties(5, 5, 0, 2));
    }

    private static void newsNeverOrNow() {
        said("(0: it was)");
        KnowsLeast k = Check.landed(Scene.fullText());
        due("it was", 0, k.news(4, 2));
        due("tomorrow", 1, k.news(3, 2));
        due("five days off", 5, k.news(0, 6));
        said("NONE: never. LATEST");
        due("nobody was told", -1, k.news(0, 3));
        due("no road", -1, Check.landed("fact:1=1;person told 0;person;").news(1, 0));
    }

    private static void latestNever() {
        said("LATEST: the PERSON with the most DAYS (NONE ahead of all: never), the first.");
        String land = "fact:1=1;fact:1=1;person told 0;person;person;person;person;person;road 0 1;";
        KnowsLeast k = Check.landed(land + "road 1 2;road 2 3;road 3 4;");
        due("never is ahead of four days", 5, k.latest(0));
        due("nobody ever is told, the first", 0, k.latest(1));
        KnowsLeast all = Check.landed(land + "road 0 2;road 0 3;road 0 4;road 0 5;");
        due("of five alike the first", 1, all.latest(0));
    }

    private static void askedOneToEight() {
        said("ASKED in a ROW (1 to 8 numbers)");
        String land = "world 8 0 0;";
        for (int i = 0; i < 8; i++) {
            land += "world " + i + " 0 0;fact:a=" + i + ";";
        }
        KnowsLeast k = Check.landed(land);
        Check.row(k, 0, 0);
        due("none", -4, k.fitting(0));
        Check.row(k, 0, 0, 7);
        due("one: all sets without it", 128, k.fitting(0));
        Check.row(k, 0, 0, 7, 6, 5, 4, 3, 2, 1, 0);
        due("eight: none was told at first", 1, k.fitting(0));
        Check.row(k, 0, 0, 7, 6, 5, 4, 3, 2, 1, 0, 0);
        due("nine", -4, k.fitting(0));
    }

    private static void year() {
        said("so many times (1 to 60)");
        for (int times : new int[] {1, 2, 59, 60}) {
            compareYear(7, times);
        }
        Sentences.refusedOutside(Scene.FULL, "year(7, #)", -3, 1, 60, (k, n) -> k.year(7, n));
    }

    private static void drawWrapsAround() {
        said("(x, an int; a DRAW: x becomes 1103515245 x + 12345, it is x >>> 16)");
        int[] seeds = {0, 1, -1, Sentences.LOW, Sentences.HIGH, 12345, -12345, 1 << 16, 0x55555555, 0xaaaaaaaa, 2, 3};
        for (int seed : seeds) {
            compareYear(seed, 1);
            compareYear(seed, 60);
        }
        for (int seed = -30; seed < 30; seed++) {
            compareYear(1000003 * seed, 5);
        }
    }

    /** The years' x as a number without bounds, cut by hand. */
    private static BigInteger drawn;

    private static int draw(int below) {
        BigInteger ints = BigInteger.ONE.shiftLeft(32);
        drawn = drawn.multiply(BigInteger.valueOf(1103515245)).add(BigInteger.valueOf(12345)).mod(ints);
        return drawn.shiftRight(16).intValueExact() % below;
    }

    /** A year of the full land, done call by call on another object. */
    private static void compareYear(int seed, int times) {
        KnowsLeast k = Check.landed(Scene.fullText());
        KnowsLeast other = Check.landed(Scene.fullText());
        drawn = BigInteger.valueOf(seed);
        for (int i = 0; i < times; i++) {
            int what = draw(4);
            if (what == 0) {
                other.days(1);
            } else if (what == 1) {
                other.isTrue(draw(16));
            } else {
                int p = draw(6);
                int f = draw(8);
                if (what == 2) {
                    other.ask(p, f);
                } else {
                    other.tell(p, f);
                }
            }
        }
        String year = "year(" + seed + ", " + times + ")";
        due(year, other.least(0), k.year(seed, times));
        due(year + ", true", other.count(3), k.count(3));
        for (int p = 0; p < 6; p++) {
            due(year + ", told to " + p, other.person(p, 0), k.person(p, 0));
        }
    }

    private static void rowsMissingAtFirst() {
        said("ROWS OF NUMBERS 0 to 3 are MISSING at first");
        for (int i = 0; i < 4; i++) {
            int row = i;
            Sentences.leaves(Scene.NEW, "write(" + i + ", 0, 0)", -6, k -> k.write(row, 0, 0));
            Sentences.leaves(Scene.NEW, "copy(" + i + ")", -6, k -> k.copy(row));
        }
        Sentences.leaves(Scene.NEW, "copy(4)", -2, k -> k.copy(4));
        Sentences.leaves(Scene.NEW, "copy(-1)", -2, k -> k.copy(-1));
        KnowsLeast land = Check.landed(Scene.VILLAGE);
        due("a land makes no row", -6, land.copy(0));
    }

    private static void rowsOfNumbers() {
        said("or have 0 to 40 numbers of 8 bits (sort 0), 16 (1), 32 (2), 64 (3).");
        long[] most = {127, 32767, Integer.MAX_VALUE, Long.MAX_VALUE};
        for (int sort = 0; sort < 4; sort++) {
            KnowsLeast k = new KnowsLeast();
            due("no numbers of sort " + sort, 0, k.numbers(sort, sort, 0));
            due("none of none", -7, k.write(sort, 0, 1));
            due("forty of sort " + sort, 0, k.numbers(sort, sort, 40));
            due("the most in sort " + sort, most[sort], k.write(sort, 39, most[sort]));
            due("the least in sort " + sort, -most[sort] - 1, k.write(sort, 39, -most[sort] - 1));
            due("one more wraps around in sort " + sort, -most[sort] - 1, k.write(sort, 39, most[sort] + 1));
            due("one less wraps around in sort " + sort, most[sort], k.write(sort, 39, -most[sort] - 2));
            due("no 41st", -7, k.write(sort, 40, 1));
            due("no 41 numbers", -3, k.numbers(sort, sort, 41));
        }
    }

    private static void imagesNoneAtFirst() {
        said("nothing can be UNDONE behind (none at first)");
        for (int i = 0; i < 2; i++) {
            int image = i;
            Sentences.leaves(Scene.NEW, "restore(" + i + ")", -5, k -> k.restore(image));
        }
        KnowsLeast k = Scene.FULL.make();
        due("twelve ahead", 12, k.count(4));
        k.restore(0);
        due("none behind", 0, k.count(4));
        due("not one", -3, k.undo(1));
        due("the land that is in it", 16, k.count(0));
        KnowsLeast state = Check.landed(Scene.VILLAGE);
        state.tell(2, 0);
        state.isTrue(3);
        state.image(0);
        state.tell(2, 1);
        state.isTrue(0);
        due("restore(0)", 0, state.restore(0));
        due("told as it was", 1, state.person(2, 0));
        due("true as it was", 3, state.count(3));
        due("nothing to undo", 0, state.count(4));
        said("IMAGES 0 to 1");
        Sentences.refusedOutside(Scene.BUSY, "image(#)", -2, 0, 1, (b, i) -> b.image(i));
        due("the last one", 0, k.image(1));
    }

    private static void refusedChangesNothing() {
        said("Refused calls answer by a code and change nothing: -2 there is none such; -3 a number can't be; -4 too many; -5 it"
                + " can't be now (there are no WORLDS, no PEOPLE, no FACTS that are asked for); -6 a ROW OF NUMBERS is"
                + " MISSING; -7 it has no such number; -30 less the FAULT: a text.");
        Sentences.leaves(Scene.BUSY, "tell(3, 0)", -2, k -> k.tell(3, 0));
        Sentences.leaves(Scene.BUSY, "days(61)", -3, k -> k.days(61));
        Sentences.leaves(Scene.BUSY, "fitting(2)", -4, k -> k.fitting(2));
        Sentences.leaves(Scene.BUSY, "restore(1)", -5, k -> k.restore(1));
        Sentences.leaves(Scene.NO_WORLDS, "common()", -5, KnowsLeast::common);
        Sentences.leaves(Scene.NO_PEOPLE, "justice(0)", -5, k -> k.justice(0));
        Sentences.leaves(Scene.NO_FACTS, "year(1, 1)", -5, k -> k.year(1, 1));
        Sentences.leaves(Scene.BUSY, "perform(3)", -6, k -> k.perform(3));
        Sentences.leaves(Scene.BUSY, "write(2, 0, 1)", -7, k -> k.write(2, 0, 1));
        KnowsLeast k = Scene.BUSY.make();
        due("land of 27 bytes", -32, k.land(27));
    }

    /** That nothing has changed is seen by what a Probe sees: so it has to see each change. */
    private static void probeSeesChanges() {
        sees("the tape", 4, k -> k.feed(0x20202020, 0x70657273, 0x6f6e3b20, 0x20202020, 0x20202020));
        sees("a land", 0, k -> k.land(0));
        sees("a land's fault", 0, k -> k.land(27));
        sees("a telling", 0, k -> k.tell(0, 1));
        sees("a telling of nothing new", 1, k -> k.tell(0, 0));
        sees("a question", 0, k -> k.ask(0, 1));
        sees("a day", 0, k -> k.days(1));
        sees("what is true", 0, k -> k.isTrue(2));
        sees("an undoing", 1, k -> k.undo(1));
        sees("deeds", 0, k -> k.perform(0));
        sees("a year", 0, k -> k.year(5, 20));
        sees("a row made", 3, k -> k.numbers(3, 0, 0));
        sees("a row of another sort", 3, k -> k.numbers(2, 2, 1));
        sees("a row made anew", 3, k -> k.numbers(0, 1, 6));
        sees("a row longer", 3, k -> k.numbers(2, 3, 1));
        sees("a number", 3, k -> k.write(0, 1, 22));
        sees("a number far on", 3, k -> k.write(0, 4, 0));
        sees("a copy", 3, k -> k.copy(1));
        sees("an image", 2, k -> k.image(0));
        sees("the other image", 2, k -> k.image(1));
        sees("an image restored", 0, k -> k.restore(0));
    }

    private static void sees(String what, int part, ToLongFunction<KnowsLeast> does) {
        KnowsLeast changed = Scene.BUSY.make();
        does.applyAsLong(changed);
        boolean alike = Probe.see(Scene.BUSY.make(), part).equals(Probe.see(changed, part));
        due("(a change is seen: " + what + ")", 1, alike ? 0 : 1);
    }

    private static void codesInOrder() {
        said("(Of several that which the call tells first; all these ahead of NONE.)");
        due("year: -3 ahead of -5", -3, new KnowsLeast().year(0, 0));
        due("everyone: -2 ahead of -5", -2, new KnowsLeast().everyone(0));
        due("reach: -3 ahead of -5", -3, new KnowsLeast().reach(0));
        due("together: -3 ahead of -5", -3, new KnowsLeast().together(1));
        due("judge: -2 ahead of -6", -2, new KnowsLeast().judge(0, 4));
        due("write: -6 ahead of -7", -6, new KnowsLeast().write(0, -1, 0));
        due("numbers: -2 ahead of -3", -2, new KnowsLeast().numbers(0, 4, 41));
        due("least: -2 ahead of NONE", -2, new KnowsLeast().least(4));
        due("latest: -2 ahead of NONE", -2, new KnowsLeast().latest(0));
        due("leastIn: -2 ahead of -3", -2, new KnowsLeast().leastIn(4, 61));
        due("leastIn: -3 ahead of NONE", -3, new KnowsLeast().leastIn(0, 61));
        due("shown: -2 ahead of NONE", -2, Scene.BUSY.make().shown(2, 13));
        due("fitting: -6 ahead of -5", -6, Scene.NO_WORLDS.make().fitting(3));
        due("fitting: -4 ahead of -5", -4, Scene.NO_WORLDS.make().fitting(2));
        due("fitting: -3 ahead of -5", -3, Scene.NO_WORLDS.make().fitting(1));
        KnowsLeast nine = Scene.BUSY.make();
        Check.row(nine, 0, 0, 9, 9, 9, 9, 9, 9, 9, 9, 9);
        due("fitting: -4 ahead of -3", -4, nine.fitting(0));
        due("questions: -2 ahead of -3", -2, Scene.NO_WORLDS.make().questions(2, 5));
        due("questions: -3 ahead of -5", -3, Scene.NO_WORLDS.make().questions(0, 5));
    }

    private static void objectOf512Calls() {
        said("An object is used for at most 512 calls after it has been made");
        String text = Scene.fullText();
        int feeds = (text.length() + 19) / 20;
        KnowsLeast k = Check.landed(text);
        for (int i = feeds + 1; i < 511; i += 2) {
            due("call " + (i + 1), 15, k.isTrue(15));
            due("call " + (i + 2) + ", of fewest facts", 1, k.trial(0, 0));
        }
    }
}
