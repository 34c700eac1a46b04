/** For each promise: ordinary calls, the edges that the document names, and wrong calls. */
public final class PromisesTest {
    /** Four worlds, true is 1. Fact 0 holds in 2 and 3, fact 1 in 0 and 3, fact 2 in the guilty ones, 1 and 3. */
    private static final String VILLAGE = "world 1 0 0;world 2 0 0 guilty;world 3 1 0 weight 2;world 4 1 0 guilty;"
            + "fact : a > 2;fact : b = 0 and a < 2 or world = 3;fact : guilty = 1;"
            + "person told 0;person told 1;person;road 0 1;hint 1 2;true 1;";
    /** People in a row of roads; only the first was told something. */
    private static final String STREET = "world 0 0 0;world 1 0 0;fact : a = 1;fact : a = 0;"
            + "person told 0;person;person;person;person;person;road 0 1;road 1 2;road 2 3;road 4 3;";
    private static final String NO_WORLDS = "fact : 1 = 2;fact : 1 = 1;person;person told 0;hint 0 1;road 0 1;";
    private static final String NO_PEOPLE = "world 1 2 3 guilty;world 4 5 6;fact : a = 1;";
    private static final int LOW = Integer.MIN_VALUE;
    private static final int HIGH = Integer.MAX_VALUE;

    private PromisesTest() {
    }

    private static void due(String call, long want, long got) {
        Check.due(call, want, got);
    }

    private static KnowsLeast village() {
        return Check.landed(VILLAGE);
    }

    public static void main(String[] args) {
        newObject();
        feed();
        land();
        fault();
        world();
        fact();
        person();
        hints();
        knows();
        cell();
        tell();
        ask();
        days();
        isTrue();
        undo();
        judge();
        perform();
        year();
        everyone();
        depth();
        common();
        reach();
        together();
        witnesses();
        parting();
        measure();
        least();
        seats();
        differ();
        shown();
        appeals();
        parties();
        inform();
        trial();
        brief();
        right();
        justice();
        bestLaw();
        news();
        latest();
        leastIn();
        calm();
        fitting();
        sure();
        questions();
        numbers();
        write();
        copy();
        image();
        restore();
        count();
        Check.end("PromisesTest");
    }

    private static void newObject() {
        due("1 NONE", -1, KnowsLeast.NONE);
        KnowsLeast k = new KnowsLeast();
        int[] want = {0, 0, 0, -1, 0, 0, 0, 0, 0, 0};
        for (int what = 0; what < want.length; what++) {
            due("1 count " + what, want[what], k.count(what));
        }
        due("1 fault 0", 0, k.fault(0));
        due("1 fault 1", -1, k.fault(1));
        due("1 least", -1, k.least(0));
        for (int i = 0; i < 4; i++) {
            due("1 row " + i, -6, k.copy(i));
        }
        for (int i = 0; i < 2; i++) {
            due("1 image " + i, -5, k.restore(i));
        }
    }

    private static void feed() {
        KnowsLeast k = new KnowsLeast();
        // the highest byte of each int comes first
        due("2 feed", 20, k.feed(0x776f726c, 0x64203120, 0x32203334, 0x3b202020, 0x20202020));
        due("2 land", 1, k.land(13));
        due("2 world a", 1, k.world(0, 0));
        due("2 world c", 34, k.world(0, 2));
        for (int i = 1; i <= 45; i++) {
            due("2 feed " + i, 20 * i, k.feed(0x3b3b3b3b, -1, 0, LOW, HIGH));
        }
        due("2 feed beyond", -5, k.feed(1, 2, 3, 4, 5));
        due("2 tape", 900, k.count(8));
        due("2 land 900", -32, k.land(900));
        due("2 tape is empty", 0, k.count(8));
        due("2 feed again", 20, k.feed(0, 0, 0, 0, 0));
    }

    private static void land() {
        KnowsLeast k = village();
        due("3 lines", 13, k.count(9));
        k.tell(2, 0);
        due("3 can be undone", 1, k.count(4));
        Check.feed(k, "world 1 1 1;world 2 2 ");
        due("3 below", -3, k.land(-1));
        due("3 above", -3, k.land(41));
        due("3 far off", -3, k.land(HIGH));
        due("3 least", -3, k.land(LOW));
        due("3 the tape stays", 40, k.count(8));
        due("3 fault of the read one stays", 0, k.fault(0));
        due("3 with a fault", -32, k.land(22));
        due("3 the tape is empty", 0, k.count(8));
        due("3 all stays", 4, k.count(0));
        due("3 told stays", 1, k.person(2, 0));
        due("3 undo stays", 1, k.count(4));
        due("3 lines stay", 13, k.count(9));
        Check.feed(k, "world 1 1 1;world 2 2 ");
        due("3 part of the tape", 1, k.land(12));
        due("3 worlds", 1, k.count(0));
        due("3 people", 0, k.count(2));
        due("3 nothing can be undone", 0, k.count(4));
        due("3 tape", 0, k.count(8));
        due("3 none", 0, k.land(0));
        due("3 no worlds", 0, k.count(0));
    }

    private static void fault() {
        KnowsLeast k = new KnowsLeast();
        due("4 land", -31, Check.land(k, "person;  $"));
        due("4 kind", 1, k.fault(0));
        due("4 place", 9, k.fault(1));
        due("4 other", -1, k.fault(2));
        due("4 below", -1, k.fault(-1));
        due("4 not read", -3, k.land(1));
        due("4 kind stays", 1, k.fault(0));
        due("4 good", 1, Check.land(k, "person;"));
        due("4 none", 0, k.fault(0));
        due("4 no place", -1, k.fault(1));
    }

    private static void world() {
        KnowsLeast k = Check.landed("fact : world = 1;world 1 2 3;world 99 0 7 weight 9 guilty;fact : c > 2;");
        int[] first = {1, 2, 3, 1, 0, 2};
        int[] second = {99, 0, 7, 9, 1, 3};
        for (int what = 0; what < 6; what++) {
            due("5 world 0 " + what, first[what], k.world(0, what));
            due("5 world 1 " + what, second[what], k.world(1, what));
        }
        for (int wrong : new int[] {-1, 2, LOW, HIGH}) {
            due("5 no world", -2, k.world(wrong, 0));
        }
        for (int wrong : new int[] {-1, 6, LOW, HIGH}) {
            due("5 no what", -2, k.world(0, wrong));
        }
    }

    private static void fact() {
        KnowsLeast k = village();
        due("6 fact 0", 12, k.fact(0));
        due("6 fact 1", 9, k.fact(1));
        due("6 fact 2", 10, k.fact(2));
        for (int wrong : new int[] {-1, 3, LOW, HIGH}) {
            due("6 no fact", -2, k.fact(wrong));
        }
        due("6 without worlds", 0, Check.landed(NO_WORLDS).fact(1));
    }

    private static void person() {
        KnowsLeast k = village();
        int[][] want = {{1, 3, 1, 0, 2}, {2, 6, 2, 0, 1}, {0, 15, 0, 0, 0}};
        for (int p = 0; p < 3; p++) {
            for (int what = 0; what < 5; what++) {
                due("7 person " + p + " " + what, want[p][what], k.person(p, what));
            }
        }
        k.tell(2, 2);
        due("7 knows the guilt", 1, k.person(2, 3));
        for (int wrong : new int[] {-1, 3, LOW, HIGH}) {
            due("7 no person", -2, k.person(wrong, 0));
        }
        for (int wrong : new int[] {-1, 5, LOW, HIGH}) {
            due("7 no what", -2, k.person(0, wrong));
        }
        KnowsLeast none = Check.landed(NO_WORLDS);
        due("7 without worlds, possible", 0, none.person(0, 1));
        due("7 without worlds, known", 3, none.person(0, 2));
        due("7 without worlds, guilt", 1, none.person(0, 3));
        due("7 road both ways", 1, none.person(1, 4));
    }

    private static void hints() {
        KnowsLeast k = Check.landed("fact : 1 = 1;fact : 1 = 2;hint 0 0;hint 0 1;hint 0 1;");
        due("8 hints 0", 3, k.hints(0));
        due("8 hints 1", 0, k.hints(1));
        for (int wrong : new int[] {-1, 2, LOW, HIGH}) {
            due("8 no fact", -2, k.hints(wrong));
        }
    }

    private static void knows() {
        KnowsLeast k = village();
        due("9 that it doesn't", 0, k.knows(0, 0));
        due("9 doesn't know", -1, k.knows(0, 1));
        k.isTrue(3);
        due("9 that it holds", 1, k.knows(0, 0));
        due("9 no person", -2, k.knows(3, 0));
        due("9 below", -2, k.knows(-1, 0));
        due("9 no fact", -2, k.knows(0, 3));
        due("9 fact below", -2, k.knows(0, -1));
        due("9 without worlds each holds", 1, Check.landed(NO_WORLDS).knows(0, 0));
    }

    private static void cell() {
        KnowsLeast k = village();
        int[][] want = {{3, 3, 12, 12}, {9, 6, 6, 9}, {15, 15, 15, 15}};
        for (int p = 0; p < 3; p++) {
            for (int w = 0; w < 4; w++) {
                due("10 cell " + p + " " + w, want[p][w], k.cell(p, w));
            }
        }
        due("10 no person", -2, k.cell(3, 0));
        due("10 person below", -2, k.cell(-1, 0));
        due("10 no world", -2, k.cell(0, 4));
        due("10 world below", -2, k.cell(0, -1));
        due("10 no worlds", -2, Check.landed(NO_WORLDS).cell(0, 0));
    }

    private static void tell() {
        KnowsLeast k = village();
        due("11 tell", 2, k.tell(2, 0));
        due("11 told", 1, k.person(2, 0));
        due("11 tell more", 1, k.tell(2, 1));
        due("11 again", 1, k.tell(2, 1));
        due("11 can be undone", 3, k.count(4));
        due("11 no person", -2, k.tell(3, 0));
        due("11 person below", -2, k.tell(-1, 0));
        due("11 no fact", -2, k.tell(0, 3));
        due("11 fact below", -2, k.tell(0, -1));
        due("11 refused changes nothing", 3, k.count(4));
        due("11 no hints by telling", 3, k.person(2, 0));
        due("11 without worlds", 0, Check.landed(NO_WORLDS).tell(0, 0));
    }

    private static void ask() {
        KnowsLeast k = village();
        due("12 knew not", 0, k.ask(2, 1));
        due("12 was hinted", 4, k.person(2, 0));
        due("12 knew it", 1, k.ask(2, 2));
        due("12 nothing hinted", 4, k.person(2, 0));
        due("12 can be undone", 2, k.count(4));
        due("12 no person", -2, k.ask(3, 0));
        due("12 person below", -2, k.ask(-1, 0));
        due("12 no fact", -2, k.ask(0, 3));
        due("12 fact below", -2, k.ask(0, -1));
        due("12 without worlds", 1, Check.landed(NO_WORLDS).ask(0, 0));
        KnowsLeast own = Check.landed("world 1 0 0;world 2 0 0;fact : a = 1;person;hint 0 0;");
        due("12 the answer is ahead of the hint", 0, own.ask(0, 0));
        due("12 then it knows", 1, own.ask(0, 0));
    }

    private static void days() {
        KnowsLeast k = Check.landed(STREET);
        due("13 all at once", 1, k.days(1));
        due("13 not further", 0, k.person(2, 0));
        due("13 two days", 2, k.days(2));
        due("13 the rest", 1, k.days(60));
        due("13 nobody", 0, k.days(1));
        due("13 without a road", 0, k.person(5, 0));
        due("13 can be undone", 4, k.count(4));
        for (int wrong : new int[] {0, -1, 61, LOW, HIGH}) {
            due("13 days " + wrong, -3, k.days(wrong));
        }
        due("13 refused changes nothing", 4, k.count(4));
        KnowsLeast both = village();
        due("13 both ways", 2, both.days(1));
        due("13 first", 3, both.person(0, 0));
        due("13 second", 3, both.person(1, 0));
        due("13 no people", 0, new KnowsLeast().days(60));
    }

    private static void isTrue() {
        KnowsLeast k = village();
        due("14 was", 1, k.isTrue(3));
        due("14 is", 3, k.count(3));
        due("14 the same", 3, k.isTrue(3));
        due("14 can be undone", 2, k.count(4));
        due("14 possible by it", 12, k.person(0, 1));
        for (int wrong : new int[] {-1, 4, LOW, HIGH}) {
            due("14 no world", -2, k.isTrue(wrong));
        }
        due("14 no worlds", -2, new KnowsLeast().isTrue(0));
        due("14 0 without", 0, Check.landed(NO_PEOPLE).count(3));
        due("14 later ones strike", 0, Check.landed("world 1 1 1;world 1 1 1;true 1;true 0;").count(3));
    }

    private static void undo() {
        KnowsLeast k = village();
        due("15 nothing", -3, k.undo(1));
        k.tell(2, 0);
        k.isTrue(3);
        k.days(1);
        due("15 more than can be", -3, k.undo(4));
        due("15 none", -3, k.undo(0));
        due("15 below", -3, k.undo(-1));
        due("15 one", 2, k.undo(1));
        due("15 told before the day", 1, k.person(0, 0));
        due("15 true before it", 3, k.count(3));
        due("15 two", 0, k.undo(2));
        due("15 true", 1, k.count(3));
        due("15 told", 0, k.person(2, 0));
        for (int i = 0; i < 14; i++) {
            k.isTrue(i % 4);
        }
        due("15 twelve at most", 12, k.count(4));
        due("15 thirteen", -3, k.undo(13));
        due("15 twelve", 0, k.undo(12));
        due("15 eldest are forgotten", 1, k.count(3));
    }

    private static void judge() {
        KnowsLeast k = village();
        due("16 missing", -6, k.judge(0, 0));
        due("16 no row", -2, k.judge(4, 0));
        due("16 row below", -2, k.judge(-1, 0));
        due("16 no what, ahead of missing", -2, k.judge(0, 4));
        due("16 what below", -2, k.judge(0, -1));
        // 2 is told facts 0 and 1, is asked 2 and knows it; 0 is asked 1, then knows not, is hinted 2
        Check.row(k, 0, 1, 20, 21, 122, 101, -1);
        due("16 all can be", -1, k.judge(0, 0));
        due("16 how many", 5, k.judge(0, 1));
        due("16 how often", 1, k.judge(0, 3));
        // then 0 was told 0 2 1, 1 was told 1 0 2, 2 was told 0 1: all hold one world
        due("16 least then", 0, k.judge(0, 2));
        due("16 nothing is done", 0, k.person(2, 0));
        due("16 nothing to undo", 0, k.count(4));
        for (long wrong : new long[] {30, 3, 8, 9, 60, 130, 103, 200, 221, -2, 1L << 40, Long.MIN_VALUE, Long.MAX_VALUE}) {
            Check.row(k, 1, 3, -1, wrong, 20);
            due("16 place of " + wrong, 1, k.judge(1, 0));
            due("16 how many ahead of " + wrong, 1, k.judge(1, 1));
            due("16 least ahead of " + wrong, 2, k.judge(1, 2));
        }
        Check.row(k, 2, 0);
        due("16 empty", -1, k.judge(2, 0));
        due("16 empty, how many", 0, k.judge(2, 1));
        due("16 empty, least", 2, k.judge(2, 2));
        due("16 empty, how often", 0, k.judge(2, 3));
        KnowsLeast none = Check.landed(NO_PEOPLE);
        Check.row(none, 0, 0, -1, 0);
        due("16 a day without people", 1, none.judge(0, 1));
        due("16 least without people", -1, none.judge(0, 2));
    }

    private static void perform() {
        KnowsLeast k = village();
        due("17 missing", -6, k.perform(0));
        due("17 no row", -2, k.perform(4));
        due("17 row below", -2, k.perform(-1));
        Check.row(k, 0, 0, 20, -1, 121, 30, 21);
        due("17 perform", 3, k.perform(0));
        due("17 told and hinted", 5, k.person(2, 0));
        due("17 the day", 3, k.person(0, 0));
        due("17 as a whole", 1, k.count(4));
        due("17 undo", 0, k.undo(1));
        due("17 undone", 0, k.person(2, 0));
        due("17 undone day", 1, k.person(0, 0));
        Check.row(k, 1, 0, 99);
        due("17 none can be", 0, k.perform(1));
        due("17 nothing to undo", 0, k.count(4));
        Check.row(k, 1, 0);
        due("17 empty", 0, k.perform(1));
        due("17 nothing to undo by none", 0, k.count(4));
    }

    private static void year() {
        KnowsLeast k = village();
        due("18 no times", -3, k.year(1, 0));
        due("18 below", -3, k.year(1, -1));
        due("18 too often", -3, k.year(1, 61));
        int x = 1;
        int[] draws = new int[3];
        for (int i = 0; i < 3; i++) {
            x = 1103515245 * x + 12345;
            draws[i] = x >>> 16;
        }
        KnowsLeast other = village();
        due("18 year", k.year(1, 1), dueYear(other, draws));
        for (int p = 0; p < 3; p++) {
            due("18 told " + p, other.person(p, 0), k.person(p, 0));
        }
        due("18 true", other.count(3), k.count(3));
        due("18 as a whole", 1, k.count(4));
        due("18 sixty", 1, k.year(LOW, 60) >= 0 ? 1 : 0);
        due("18 two calls", 2, k.count(4));
        due("18 undo", 0, k.undo(2));
        due("18 as it was", 0, k.person(2, 0));
        due("18 no worlds", -5, Check.landed(NO_WORLDS).year(1, 1));
        due("18 no people", -5, Check.landed(NO_PEOPLE).year(1, 1));
        due("18 no facts", -5, Check.landed("world 1 1 1;person;").year(1, 1));
        due("18 times ahead of that", -3, new KnowsLeast().year(1, 0));
    }

    private static int dueYear(KnowsLeast k, int[] draws) {
        switch (draws[0] % 4) {
            case 0:
                k.days(1);
                break;
            case 1:
                k.isTrue(draws[1] % 4);
                break;
            case 2:
                k.ask(draws[1] % 3, draws[2] % 3);
                break;
            default:
                k.tell(draws[1] % 3, draws[2] % 3);
                break;
        }
        return k.least(0);
    }

    /** 0 was told whether a is 1, 1 whether a is below 3: a chain 0 - 1 - 2 of worlds. */
    private static KnowsLeast chain() {
        return Check.landed("world 1 0 0;world 2 0 0;world 3 0 0;world 4 0 0;"
                + "fact : a < 2 or a > 3;fact : a < 3;fact : a < 4;fact : a > 0;"
                + "person told 0;person told 1;fact : a < 2;person told 4 2;");
    }

    private static void everyone() {
        // true is 0: 0 holds 0 and 3 possible, 1 holds 0 and 1, 2 holds 0 alone
        KnowsLeast k = chain();
        int[] want = {0, 0, 0, 1, 0};
        for (int f = 0; f < 5; f++) {
            due("19 everyone " + f, want[f], k.everyone(f));
        }
        due("19 no fact", -2, k.everyone(5));
        due("19 below", -2, k.everyone(-1));
        due("19 no worlds", -5, Check.landed(NO_WORLDS).everyone(0));
        due("19 no fact ahead of no worlds", -2, Check.landed(NO_WORLDS).everyone(2));
        due("19 without people", 1, Check.landed(NO_PEOPLE).everyone(0));
    }

    /** Fifteen worlds in a row, true is the first: the one can't tell 0 from 1, 2 from 3, the other 1 from 2, .. */
    private static KnowsLeast ladder() {
        StringBuilder text = new StringBuilder();
        for (int i = 0; i < 15; i++) {
            text.append("world ").append(i).append(" 0 0;");
        }
        text.append("fact:a<2 or a>3 and a<6 or a>7 and a<10 or a>11 and a<14;fact:a<4 or a>7 and a<12;fact:a<8;");
        text.append("fact:a<1 or a>2 and a<5 or a>6 and a<9 or a>10 and a<13;");
        text.append("fact:a<3 or a>6 and a<11;fact:a<7;fact:a<5;fact:a<14;person told 0 1 2;person told 3 4 5;");
        return Check.landed(text.toString());
    }

    private static void depth() {
        KnowsLeast k = chain();
        due("20 depth 0", 0, k.depth(0));
        due("20 common", 100, k.depth(3));
        due("20 no fact", -2, k.depth(5));
        due("20 below", -2, k.depth(-1));
        due("20 no worlds", -5, Check.landed(NO_WORLDS).depth(0));
        due("20 without people", 100, Check.landed(NO_PEOPLE).depth(0));
        // with each step one world more along the row
        KnowsLeast ladder = ladder();
        for (int n = 1; n <= 20; n++) {
            due("20 reach " + n, (1 << Math.min(n, 14) + 1) - 1, ladder.reach(n));
        }
        due("20 holds in 0 to 4", 4, ladder.depth(6));
        due("20 holds in all but the last", 13, ladder.depth(7));
    }

    private static void common() {
        due("21 common", 8, chain().common());
        due("21 no worlds", -5, new KnowsLeast().common());
        due("21 without people", 1, Check.landed(NO_PEOPLE).common());
        due("21 without facts", 0, Check.landed("world 1 1 1;").common());
    }

    private static void reach() {
        KnowsLeast k = chain();
        due("22 one", 11, k.reach(1));
        due("22 two", 15, k.reach(2));
        due("22 twenty", 15, k.reach(20));
        due("22 none", -3, k.reach(0));
        due("22 below", -3, k.reach(LOW));
        due("22 above", -3, k.reach(21));
        due("22 no worlds", -5, new KnowsLeast().reach(20));
        due("22 n ahead of no worlds", -3, new KnowsLeast().reach(21));
        due("22 without people", 1, Check.landed(NO_PEOPLE).reach(5));
    }

    private static void together() {
        KnowsLeast k = village();
        int[] want = {15, 3, 6, 2, 15, 3, 6, 2};
        for (int set = 0; set < 8; set++) {
            due("23 together " + set, want[set], k.together(set));
        }
        for (int wrong : new int[] {8, 9, -1, LOW, HIGH}) {
            due("23 others", -3, k.together(wrong));
        }
        due("23 no worlds", -5, Check.landed(NO_WORLDS).together(3));
        due("23 others ahead of no worlds", -3, new KnowsLeast().together(1));
        due("23 of nobody", 3, Check.landed(NO_PEOPLE).together(0));
    }

    private static void witnesses() {
        KnowsLeast k = village();
        due("24 two of them", 3, k.witnesses());
        k.tell(2, 2);
        due("24 one", 4, k.witnesses());
        due("24 no worlds", -5, new KnowsLeast().witnesses());
        due("24 not even all", -1, Check.landed(NO_PEOPLE).witnesses());
        due("24 nobody is needed", 0, Check.landed("world 1 1 1;world 2 2 2;").witnesses());
    }

    private static void parting() {
        KnowsLeast k = village();
        due("25 parting", 3, k.parting(0, 1));
        due("25 the other way", 3, k.parting(1, 0));
        due("25 from who knows none", 1, k.parting(2, 0));
        due("25 from itself", 0, k.parting(1, 1));
        due("25 no person", -2, k.parting(3, 0));
        due("25 no other", -2, k.parting(0, 3));
        due("25 below", -2, k.parting(-1, 0));
        due("25 other below", -2, k.parting(0, -1));
    }

    private static void measure() {
        KnowsLeast k = village();
        int[][] want = {{2, 1, 2, 2}, {2, 1, 3, 2}, {4, 2, 5, 3}};
        for (int p = 0; p < 3; p++) {
            for (int m = 0; m < 4; m++) {
                due("26 measure " + p + " " + m, want[p][m], k.measure(p, m));
            }
        }
        due("26 no person", -2, k.measure(3, 0));
        due("26 person below", -2, k.measure(-1, 0));
        due("26 no measure", -2, k.measure(0, 4));
        due("26 measure below", -2, k.measure(0, -1));
        KnowsLeast few = Check.landed("world 0 0 0;world 0 0 0 guilty;world 0 0 0 weight 9 guilty;person;");
        due("26 the others are fewer", 1, few.measure(0, 1));
        due("26 weight", 11, few.measure(0, 2));
        KnowsLeast none = Check.landed(NO_WORLDS);
        for (int m = 0; m < 4; m++) {
            due("26 without worlds " + m, 0, none.measure(0, m));
        }
    }

    private static void least() {
        KnowsLeast k = village();
        for (int m = 0; m < 4; m++) {
            due("27 least " + m, 2, k.least(m));
        }
        k.tell(2, 0);
        due("27 of like ones the first", 0, k.least(0));
        due("27 by weight", 1, k.least(2));
        due("27 no measure", -2, k.least(4));
        due("27 below", -2, k.least(-1));
        due("27 no people", -1, new KnowsLeast().least(3));
        due("27 no measure ahead of no people", -2, new KnowsLeast().least(4));
    }

    private static void seats() {
        KnowsLeast k = Check.landed("world 1 0 0;world 2 0 0;world 3 0 0;fact : a = 1;fact : a < 3;"
                + "person told 1;person told 0;");
        // 0 holds 2 2 1 worlds possible, 1 holds 1 2 2
        due("28 seats 0", 2, k.seats(0, 0));
        due("28 seats 1", 1, k.seats(1, 0));
        due("28 no guilt, the first", 3, k.seats(0, 1));
        due("28 no person", -2, k.seats(2, 0));
        due("28 person below", -2, k.seats(-1, 0));
        due("28 no measure", -2, k.seats(0, 4));
        due("28 measure below", -2, k.seats(0, -1));
        due("28 without worlds", 0, Check.landed(NO_WORLDS).seats(0, 0));
    }

    private static void differ() {
        // 0 holds two light worlds, 1 a heavy one
        KnowsLeast k = Check.landed("world 0 0 0;world 1 0 0;world 2 0 0 weight 9;fact : a < 2;fact : a = 2;"
                + "fact : a = 0;person told 0;person told 0 2;person;");
        due("29 alike", 0, k.differ(0, 2));
        KnowsLeast other = Check.landed("world 0 0 0 weight 9;world 0 1 0;world 1 0 0;world 1 1 0;fact : a = 0;"
                + "fact : a = 0 and b = 0;fact : a = 0 and b = 0 or a = 1 and b = 1;"
                + "person told 0;person told 1;true 1;");
        // true is (0 1): 0 holds worlds 0 1 (weight 10), 1 holds 1 2 3 (weight 3)
        due("29 differ", 1, other.differ(0, 2));
        due("29 the other way", 1, other.differ(2, 0));
        due("29 the same measure", 0, other.differ(2, 2));
        due("29 like ones by one measure", 0, other.differ(1, 2));
        due("29 no measure", -2, other.differ(4, 0));
        due("29 no other", -2, other.differ(0, 4));
        due("29 below", -2, other.differ(-1, 0));
        due("29 other below", -2, other.differ(0, -1));
        due("29 no people", 0, new KnowsLeast().differ(0, 1));
    }

    private static void shown() {
        KnowsLeast k = village();
        due("30 questions", 3, k.shown(2, 0));
        due("30 of 0", 0, k.shown(2, 10));
        due("30 of 1", 0, k.shown(2, 11));
        due("30 of 2", 7, k.shown(2, 12));
        due("30 not the least", -1, k.shown(0, 0));
        due("30 not the least, of 0", -1, k.shown(1, 10));
        due("30 no person", -2, k.shown(3, 0));
        due("30 person below", -2, k.shown(-1, 0));
        for (int wrong : new int[] {1, 9, 13, -1, -10, LOW, HIGH}) {
            due("30 what " + wrong, -2, k.shown(2, wrong));
            due("30 what of another " + wrong, -2, k.shown(0, wrong));
        }
        // one question shows that 1 knows the only fact; who knows it holds one world
        KnowsLeast one = Check.landed("world 0 0 0;world 1 0 0;fact : a = 0;person;person told 0;");
        due("30 the least set to the first", 1, one.shown(0, 0));
        due("30 nothing asked of 0", 0, one.shown(0, 10));
        due("30 asked of 1", 1, one.shown(0, 11));
        KnowsLeast alike = Check.landed("world 0 0 0;world 1 0 0;fact : a = 0;person;person;");
        due("30 the one is asked", 1, alike.shown(0, 0));
        due("30 asked of 0", 1, alike.shown(0, 10));
        due("30 as many, but not the first", -1, alike.shown(1, 0));
        due("30 alone", 0, Check.landed("world 0 0 0;world 1 0 0;fact : a = 0;person;").shown(0, 0));
        // 0 holds 0 1 2, all but one fact known; 1 holds 0 3, two unknown: by how many worlds 0 is the least, by facts 1.
        // That 0 doesn't know fact 1 shows at least three worlds, that 1 knows it at most two
        KnowsLeast apart = Check.landed("world 0 0 0;world 1 0 0;world 2 0 0;world 3 0 0;fact : a < 3;"
                + "fact : a = 1 or a = 2;fact : a = 3;person told 0;person told 1;");
        due("30 the least by facts is another one", 1, apart.least(3));
        due("30 by how many worlds", 2, apart.shown(0, 0));
        due("30 the fact asked of 0", 2, apart.shown(0, 10));
        due("30 the fact asked of 1", 2, apart.shown(0, 11));
        due("30 the least by facts is not shown", -1, apart.shown(1, 0));
        manyQuestions("0 1 2 3 4 5 6 7", 0, 255);
        manyQuestions("0 1 2 3 4 5 6", 128, 127);
        manyQuestions("1 2 7", 255 - 134, 134);
        due("30 without worlds", 0, Check.landed(NO_WORLDS).shown(0, 0));
        due("30 without worlds, another", -1, Check.landed(NO_WORLDS).shown(1, 11));
    }

    /**
     * Six people were told the same of eight facts, each of which tells off one of eight worlds that are not true: the
     * first is shown to hold as many as the others by all that it doesn't know, and by all that each other one knows.
     */
    private static void manyQuestions(String told, int ofFirst, int ofOthers) {
        StringBuilder text = new StringBuilder("world 8 0 0;");
        for (int i = 0; i < 8; i++) {
            text.append("world ").append(i).append(" 0 0;fact : a = ").append(i).append(";");
        }
        for (int p = 0; p < 6; p++) {
            text.append("person told ").append(told).append(";");
        }
        KnowsLeast k = Check.landed(text.toString());
        int questions = Integer.bitCount(ofFirst) + 5 * Integer.bitCount(ofOthers);
        due("30 questions to six who were told " + told, questions, k.shown(0, 0));
        due("30 of the first of six told " + told, ofFirst, k.shown(0, 10));
        for (int p = 1; p < 6; p++) {
            due("30 of " + p + " of six told " + told, ofOthers, k.shown(0, 10 + p));
        }
    }

    private static void appeals() {
        KnowsLeast k = village();
        // by weight 0 has 2, 1 has 3, 2 has 5
        due("31 how many", 2, k.appeals(0, 2, 0));
        due("31 where", 2, k.appeals(0, 2, 1));
        due("31 one of those with more", 1, k.appeals(1, 2, 0));
        due("31 like ones don't count", 1, k.appeals(0, 0, 0));
        due("31 none", 0, k.appeals(2, 0, 0));
        due("31 stays", 2, k.appeals(2, 0, 1));
        due("31 no person", -2, k.appeals(3, 0, 0));
        due("31 person below", -2, k.appeals(-1, 0, 0));
        due("31 no measure", -2, k.appeals(0, 4, 0));
        due("31 measure below", -2, k.appeals(0, -1, 0));
        due("31 no what", -2, k.appeals(0, 0, 2));
        due("31 what below", -2, k.appeals(0, 0, -1));
        // of like ones the first: 1 and 2 hold both worlds, 0 holds one
        KnowsLeast like = Check.landed("world 0 0 0;world 1 0 0;fact : a = 0;person told 0;person;person;");
        due("31 the first of like ones", 1, like.appeals(0, 0, 1));
    }

    private static void parties() {
        KnowsLeast k = village();
        due("32 the first's", -100, k.parties(0, 2, 0, 0));
        due("32 the other's", 1, k.parties(0, 2, 0, 1));
        due("32 who judges", 2, k.parties(0, 2, 0, 2));
        due("32 both want the same", -100, k.parties(2, 2, 0, 1));
        // one wants 0: to tell 2 fact 0 does it, and 2 can't be made the least against it
        due("32 both want 0", 0, k.parties(0, 0, 0, 2));
        due("32 both want 0, the first none", -100, k.parties(0, 0, 0, 0));
        due("32 both want 0, the other tells", 20, k.parties(0, 0, 0, 1));
        due("32 nobody gets it", 2, k.parties(1, 2, 3, 2));
        // true is 0; 0 holds one world, 1 all three, 2 two of them. The other one has 1 told fact 2 and 2 judges, unless
        // the first then has 2 told one; at rest are both only as both have 1 told a fact that leaves it two worlds
        KnowsLeast rest = Check.landed("world 0 0 0;world 1 0 0;world 2 0 0;fact : a = 1;fact : a = 2;fact : a = 0;"
                + "person told 2 1;person;person told 0;");
        due("32 the first tells too", 10, rest.parties(0, 2, 0, 0));
        due("32 both tell 1", 11, rest.parties(0, 2, 0, 1));
        due("32 so 2 judges", 2, rest.parties(0, 2, 0, 2));
        due("32 no first", -2, k.parties(3, 0, 0, 0));
        due("32 first below", -2, k.parties(-1, 0, 0, 0));
        due("32 no other", -2, k.parties(0, 3, 0, 0));
        due("32 other below", -2, k.parties(0, -1, 0, 0));
        due("32 no measure", -2, k.parties(0, 0, 4, 0));
        due("32 measure below", -2, k.parties(0, 0, -1, 0));
        due("32 no what", -2, k.parties(0, 0, 0, 3));
        due("32 what below", -2, k.parties(0, 0, 0, -1));
        due("32 no worlds", -5, Check.landed(NO_WORLDS).parties(0, 0, 0, 0));
        due("32 no what ahead of no worlds", -2, Check.landed(NO_WORLDS).parties(0, 0, 0, 3));
    }

    private static void inform() {
        KnowsLeast k = village();
        due("33 inform", 20, k.inform(0, 0));
        due("33 none is needed", -100, k.inform(2, 0));
        due("33 none does", -1, k.inform(1, 0));
        // told fact 0, person 2 holds weight 2; 1 holds 3
        due("33 by weight", 20, k.inform(1, 2));
        due("33 nothing is told", 0, k.person(2, 0));
        due("33 nothing to undo", 0, k.count(4));
        due("33 no person", -2, k.inform(3, 0));
        due("33 person below", -2, k.inform(-1, 0));
        due("33 no measure", -2, k.inform(0, 4));
        due("33 measure below", -2, k.inform(0, -1));
        due("33 no worlds", -5, Check.landed(NO_WORLDS).inform(0, 0));
        due("33 no person ahead of no worlds", -2, new KnowsLeast().inform(0, 0));
    }

    private static void trial() {
        KnowsLeast k = village();
        due("34 fewest", 1, k.trial(2, 0));
        due("34 first", 2, k.trial(2, 1));
        due("34 of like ones the least", 1, k.trial(0, 1));
        due("34 no person", -2, k.trial(3, 0));
        due("34 person below", -2, k.trial(-1, 0));
        due("34 no what", -2, k.trial(0, 2));
        due("34 what below", -2, k.trial(0, -1));
        due("34 no worlds", -5, Check.landed(NO_WORLDS).trial(0, 0));
        KnowsLeast sure = Check.landed("world 0 0 0 guilty;world 1 0 0 guilty;fact : a = 0;person;");
        due("34 none is needed", 0, sure.trial(0, 0));
        due("34 no first", -1, sure.trial(0, 1));
        KnowsLeast dark = Check.landed("world 0 0 0 guilty;world 0 1 0;fact : a = 0;person;");
        due("34 facts do not do it", -1, dark.trial(0, 0));
        due("34 no first by that", -1, dark.trial(0, 1));
        // guilty where a and b are unlike: both are needed, c is of no use
        KnowsLeast both = Check.landed("world 0 0 0;world 0 1 0 guilty;world 1 0 0 guilty;world 1 1 0;"
                + "world 1 1 1;fact : c = 1;fact : a = 1;fact : b = 1;person;true 3;");
        due("34 both", 2, both.trial(0, 0));
        due("34 the first of them", 1, both.trial(0, 1));
        // eight facts, one for each of eight worlds, guilty every other one: those of one kind, one by one
        StringBuilder text = new StringBuilder();
        for (int i = 0; i < 8; i++) {
            text.append("world ").append(i).append(" 0 0").append(i % 2 == 0 ? ";" : " guilty;");
        }
        for (int i = 0; i < 8; i++) {
            text.append("fact : a = ").append(i).append(";");
        }
        KnowsLeast one = Check.landed(text.append("person;").toString());
        due("34 one by one", 4, one.trial(0, 0));
        due("34 the first", 0, one.trial(0, 1));
        // all but the true one of nine worlds are guilty: each of eight facts tells but one of them off
        text = new StringBuilder("world 8 0 0;");
        for (int i = 0; i < 8; i++) {
            text.append("world ").append(i).append(" 0 0 guilty;fact : a = ").append(i).append(";");
        }
        KnowsLeast all = Check.landed(text.append("person;person told 0 7;").toString());
        due("34 all eight", 8, all.trial(0, 0));
        due("34 the first of eight", 0, all.trial(0, 1));
        due("34 six more", 6, all.trial(1, 0));
        due("34 the first of six", 1, all.trial(1, 1));
        // the same told the other way round: each of eight facts holds in all worlds but one
        KnowsLeast round = Check.landed(text.toString().replace(" : a", " : not a"));
        due("34 all eight that hold", 8, round.trial(0, 0));
        due("34 the first that holds", 0, round.trial(0, 1));
        for (int facts = 1; facts <= 8; facts++) {
            trialOfOne(facts, "");
            trialOfOne(facts, "not ");
        }
    }

    /** World 1 alone is guilty; the last fact tells it from world 0, each other one tells off one world more. */
    private static void trialOfOne(int facts, String first) {
        StringBuilder text = new StringBuilder("world 0 0 0;world 1 0 0 guilty;");
        for (int i = 2; i <= facts; i++) {
            String way = i == 2 ? first : "";
            text.append("world ").append(i).append(" 0 0;fact : ").append(way).append("a = ").append(i).append(";");
        }
        KnowsLeast k = Check.landed(text.append("fact : a > 0;person;").toString());
        due("34 all of " + facts, facts, k.trial(0, 0));
        due("34 the first of " + facts, 0, k.trial(0, 1));
    }

    private static void brief() {
        KnowsLeast k = village();
        due("35 brief", 4, k.brief(2));
        due("35 of like ones the least", 2, k.brief(0));
        due("35 of 1", 1, k.brief(1));
        k.tell(2, 2);
        due("35 none is needed", 0, k.brief(2));
        due("35 no person", -2, k.brief(3));
        due("35 below", -2, k.brief(-1));
        due("35 no worlds", -5, Check.landed(NO_WORLDS).brief(0));
        KnowsLeast dark = Check.landed("world 0 0 0 guilty;world 0 1 0;fact : a = 0;person;");
        due("35 all do not do it", -1, dark.brief(0));
        // the fewest are ahead of the least set
        KnowsLeast few = Check.landed("world 0 0 0;world 0 1 0 guilty;world 1 0 0 guilty;fact : a = 0;fact : b = 0;"
                + "fact : a + b = 0;person;");
        due("35 the fewest", 4, few.brief(0));
    }

    private static void right() {
        KnowsLeast k = village();
        // 0 holds 0 1 | 2 3: by 2 against 1 it is right in 2; 1 holds 0 3 | 1 2: in 2; 2: 3 against 2
        due("36 right 0", 2, k.right(0));
        due("36 right 1", 2, k.right(1));
        due("36 right 2", 3, k.right(2));
        k.tell(0, 2);
        due("36 who knows the guilt", 5, k.right(0));
        due("36 no person", -2, k.right(3));
        due("36 below", -2, k.right(-1));
        due("36 no worlds", 0, Check.landed(NO_WORLDS).right(0));
    }

    /** By how many worlds 0 is the least where it is right, by weight 1 who is not. */
    private static KnowsLeast lawful() {
        return Check.landed("world 0 0 0 weight 9;world 0 1 0 guilty;world 1 0 0 guilty;world 1 1 0 guilty;"
                + "fact : a = 0;fact : a = 0 and b = 0;person told 0;person told 1;");
    }

    private static void justice() {
        KnowsLeast k = village();
        due("37 justice 0", 3, k.justice(0));
        due("37 justice 1", 3, k.justice(1));
        due("37 no measure", -2, k.justice(4));
        due("37 below", -2, k.justice(-1));
        due("37 no people", -5, Check.landed(NO_PEOPLE).justice(0));
        due("37 no measure ahead of no people", -2, new KnowsLeast().justice(4));
        due("37 no worlds", 0, Check.landed(NO_WORLDS).justice(0));
        // in world 0: 0 holds 0 1 (right), 1 holds 0 (right); in 1: 0 holds 0 1 (wrong), 1 holds 1 2 3 (right);
        // in 2 and 3: 0 holds 2 3, 1 holds 1 2 3, both right
        KnowsLeast law = lawful();
        due("37 by how many", 12, law.justice(0));
        due("37 by weight", 11, law.justice(2));
        Check.land(law, "world 0 0 0;person;");
        due("37 nothing is left of an earlier land", 1, law.justice(0));
    }

    private static void bestLaw() {
        due("38 the first", 0, village().bestLaw());
        // by measure 2 the judge of world 1 is 0 who is wrong there
        due("38 by how many", 0, lawful().bestLaw());
        due("38 no people", -5, Check.landed(NO_PEOPLE).bestLaw());
        due("38 no worlds", 0, Check.landed(NO_WORLDS).bestLaw());
        // 0 holds 1 | 0 2, right in 1; 1 holds 0 | 1 2, right everywhere: by weight alone 1 judges in 2
        KnowsLeast heavy = Check.landed("world 0 0 0 guilty;world 1 0 0 weight 3;world 2 0 0;fact : a = 0;"
                + "fact : a = 1;person told 1;person told 0;");
        int[] want = {3, 3, 4, 3};
        for (int m = 0; m < 4; m++) {
            due("38 justice " + m, want[m], heavy.justice(m));
        }
        due("38 by weight", 2, heavy.bestLaw());
        // 0 holds 0 1 | 2, right in 0 and 2; 1 holds all, right in none: by guilt alone 0 judges in 0 (and 1)
        KnowsLeast guilt = Check.landed("world 0 0 0 weight 2;world 1 0 0 guilty;world 2 0 0 guilty;fact : a < 2;"
                + "fact : a < 0;person told 0;person told 1;");
        due("38 by guilt", 1, guilt.bestLaw());
        // 0 holds 0 | 1 2, right in 0; 1 holds 1 | 0 2, right everywhere: by facts alone 1 judges in 2
        KnowsLeast known = Check.landed("world 0 0 0;world 1 0 0 guilty;world 2 0 0;fact : a = 0;fact : a = 1;"
                + "fact : a = 0;person told 0;person told 1;");
        due("38 by facts", 3, known.bestLaw());
        // 0 holds 0 1 | 2 3, right in 0 2 3; 1 holds 2 | 0 1 3, right in 2: by guilt 0 judges in 0 1 2, by facts in 2 3
        KnowsLeast more = Check.landed("world 0 0 0 weight 2 guilty;world 1 0 0;world 2 0 0;world 3 0 0;"
                + "fact : a < 2;fact : a = 2;person told 0;person told 1;");
        int[] due = {1, 3, 1, 2};
        for (int m = 0; m < 4; m++) {
            due("38 justice of four worlds " + m, due[m], more.justice(m));
        }
        due("38 the greatest, not the last that is greater", 1, more.bestLaw());
    }

    private static void news() {
        KnowsLeast k = Check.landed(STREET);
        for (int p = 0; p < 5; p++) {
            due("39 news of " + p, p, k.news(p, 0));
        }
        due("39 no road", -1, k.news(5, 0));
        due("39 nobody was told", -1, k.news(0, 1));
        due("39 nothing is done", 0, k.person(1, 0));
        due("39 no person", -2, k.news(6, 0));
        due("39 person below", -2, k.news(-1, 0));
        due("39 no fact", -2, k.news(0, 2));
        due("39 fact below", -2, k.news(0, -1));
    }

    private static void latest() {
        KnowsLeast k = Check.landed(STREET);
        due("40 never is ahead", 5, k.latest(0));
        due("40 never, the first", 0, k.latest(1));
        k.tell(5, 0);
        due("40 the most days", 4, k.latest(0));
        k.tell(4, 0);
        // now 2 is two days from 0 and from 4
        due("40 in the midst", 2, k.latest(0));
        k.tell(2, 0);
        due("40 of like ones the first", 1, k.latest(0));
        due("40 no fact", -2, k.latest(2));
        due("40 below", -2, k.latest(-1));
        due("40 no people", -1, Check.landed(NO_PEOPLE).latest(0));
        due("40 no fact ahead of no people", -2, new KnowsLeast().latest(0));
    }

    private static void leastIn() {
        KnowsLeast k = Check.landed(STREET);
        due("41 now", 1, k.leastIn(0, 0));
        due("41 tomorrow", 2, k.leastIn(0, 1));
        due("41 in three days", 4, k.leastIn(0, 3));
        due("41 in sixty", 5, k.leastIn(0, 60));
        due("41 nothing is done", 1, k.least(0));
        due("41 no measure", -2, k.leastIn(4, 0));
        due("41 measure below", -2, k.leastIn(-1, 61));
        due("41 below", -3, k.leastIn(0, -1));
        due("41 above", -3, k.leastIn(0, 61));
        due("41 no people", -1, new KnowsLeast().leastIn(0, 60));
        due("41 above ahead of no people", -3, new KnowsLeast().leastIn(0, 61));
    }

    private static void calm() {
        KnowsLeast k = Check.landed(STREET);
        due("42 calm", 4, k.calm());
        k.days(3);
        due("42 nearly", 1, k.calm());
        k.days(1);
        due("42 nobody will be", 0, k.calm());
        due("42 nothing more", 2, k.count(4));
        due("42 nobody", 0, new KnowsLeast().calm());
    }

    private static void fitting() {
        KnowsLeast k = village();
        due("43 missing", -6, k.fitting(0));
        due("43 no row", -2, k.fitting(4));
        due("43 below", -2, k.fitting(-1));
        Check.row(k, 0, 0);
        due("43 none", -4, k.fitting(0));
        Check.row(k, 0, 0, 0, 0, 0, 0, 0, 0, 0, 0, 9);
        due("43 nine", -4, k.fitting(0));
        Check.row(k, 0, 3, 0, 1, 2, 0, 1, 2, 0, 3);
        due("43 no fact", -3, k.fitting(0));
        Check.row(k, 0, 3, 0, 1L << 32);
        due("43 far off", -3, k.fitting(0));
        Check.row(k, 0, 3, -1);
        due("43 fact below", -3, k.fitting(0));
        Check.row(k, 0, 0, 0);
        due("43 one", 3, k.fitting(0));
        Check.row(k, 0, 0, 0, 1);
        due("43 two", 1, k.fitting(0));
        Check.row(k, 0, 0, 0, 0);
        due("43 he knows it then", 0, k.fitting(0));
        Check.row(k, 0, 0, 0, 1, 2);
        due("43 two tell the third", 0, k.fitting(0));
        KnowsLeast none = Check.landed(NO_WORLDS);
        Check.row(none, 0, 0, 0);
        due("43 no worlds", -5, none.fitting(0));
        Check.row(none, 0, 0, 7);
        due("43 no fact ahead of no worlds", -3, none.fitting(0));
    }

    private static void sure() {
        KnowsLeast k = village();
        due("44 missing", -6, k.sure(0));
        due("44 no row", -2, k.sure(4));
        due("44 below", -2, k.sure(-1));
        Check.row(k, 0, 0);
        due("44 none", -4, k.sure(0));
        Check.row(k, 0, 0, 3);
        due("44 no fact", -3, k.sure(0));
        Check.row(k, 0, 0, 0);
        due("44 what he asked", 1, k.sure(0));
        Check.row(k, 0, 0, 0, 1);
        due("44 and what would have told it", 7, k.sure(0));
        Check.row(k, 0, 0, 1, 1);
        due("44 none fits", -1, k.sure(0));
        KnowsLeast none = Check.landed(NO_WORLDS);
        Check.row(none, 0, 0, 0);
        due("44 no worlds", -5, none.sure(0));
    }

    private static void questions() {
        KnowsLeast k = village();
        due("45 one of three", 3, k.questions(2, 1));
        due("45 two of three", 6, k.questions(2, 2));
        due("45 two tell the third", 0, k.questions(2, 3));
        due("45 who was told one", 2, k.questions(0, 1));
        due("45 then it knows all", 0, k.questions(0, 2));
        due("45 no person", -2, k.questions(3, 1));
        due("45 person below", -2, k.questions(-1, 1));
        due("45 none", -3, k.questions(0, 0));
        due("45 five", -3, k.questions(0, 5));
        due("45 no worlds", -5, Check.landed(NO_WORLDS).questions(0, 4));
        due("45 n ahead of no worlds", -3, Check.landed(NO_WORLDS).questions(0, 5));
        due("45 no facts", 0, Check.landed("world 5 5 5;person;").questions(0, 1));
        // 16 worlds by four facts: all rows of four
        StringBuilder text = new StringBuilder();
        for (int i = 0; i < 16; i++) {
            text.append("world ").append(i / 4).append(' ').append(i % 4).append(" 0;");
        }
        text.append("fact : a > 1;fact : a = 1 or a = 3;fact : b > 1;fact : b = 1 or b = 3;person;");
        KnowsLeast all = Check.landed(text.toString());
        int[] want = {4, 12, 24, 24};
        for (int n = 1; n <= 4; n++) {
            due("45 rows of " + n, want[n - 1], all.questions(0, n));
        }
    }

    private static void numbers() {
        KnowsLeast k = new KnowsLeast();
        due("46 none such", -2, k.numbers(4, 0, 1));
        due("46 row below", -2, k.numbers(-1, 0, 1));
        due("46 no sort", -2, k.numbers(0, 4, 1));
        due("46 sort below", -2, k.numbers(0, -1, 1));
        due("46 no sort ahead of n", -2, k.numbers(0, 4, 41));
        due("46 above", -3, k.numbers(0, 0, 41));
        due("46 below", -3, k.numbers(0, 0, -1));
        due("46 still missing", -6, k.write(0, 0, 1));
        due("46 forty", 0, k.numbers(0, 3, 40));
        due("46 the last", 5, k.write(0, 39, 5));
        due("46 behind it", -7, k.write(0, 40, 5));
        due("46 refused", -3, k.numbers(0, 0, 41));
        due("46 the row stays", 1L << 40, k.write(0, 39, 1L << 40));
        due("46 none", 0, k.numbers(0, 0, 0));
        due("46 no number", -7, k.write(0, 0, 1));
        // all 0, in place of others: deeds 0 can't be without people
        KnowsLeast v = village();
        Check.row(v, 1, 0, 20, 21);
        v.numbers(1, 2, 2);
        due("46 all are 0", 2, v.perform(1));
        due("46 0 is told 0", 0, v.person(2, 0));
    }

    private static void write() {
        KnowsLeast k = new KnowsLeast();
        for (int sort = 0; sort < 4; sort++) {
            k.numbers(sort, sort, 2);
        }
        due("47 8 bits", 127, k.write(0, 1, 127));
        due("47 8 bits, below", -128, k.write(0, 1, 128));
        due("47 8 bits, cut", 1, k.write(0, 1, 257));
        due("47 8 bits, NONE", -1, k.write(0, 1, -1));
        due("47 16 bits", 32767, k.write(1, 0, 32767));
        due("47 16 bits, cut", -32768, k.write(1, 0, 32768));
        due("47 32 bits", HIGH, k.write(2, 0, HIGH));
        due("47 32 bits, cut", LOW, k.write(2, 0, 1L << 31));
        due("47 64 bits", Long.MIN_VALUE, k.write(3, 0, Long.MIN_VALUE));
        due("47 no row", -2, k.write(4, 0, 1));
        due("47 row below", -2, k.write(-1, 0, 1));
        due("47 no number", -7, k.write(0, 2, 1));
        due("47 number below", -7, k.write(0, -1, 1));
        due("47 missing", -6, new KnowsLeast().write(0, 9, 1));
    }

    private static void copy() {
        KnowsLeast k = village();
        due("48 missing", -6, k.copy(0));
        due("48 no row", -2, k.copy(4));
        due("48 row below", -2, k.copy(-1));
        k.ask(1, 1);
        Check.row(k, 0, 0, 9, 9, 9, 1);
        due("48 copy", 3, k.copy(0));
        // told are 1, 6, 0: as deeds 0 is told 1, then 6 can't be
        due("48 the second", 1, k.judge(0, 0));
        Check.row(k, 1, 0, 0);
        due("48 as many as places", 1, k.copy(1));
        due("48 asked 1", 2 + 1, k.fitting(1));
        k.numbers(2, 0, 0);
        due("48 no places", 0, k.copy(2));
        due("48 no people", 0, emptyCopy());
        // the fourth stays: 0 0 0 1 are deeds, all can be
        KnowsLeast bare = Check.landed("world 0 0 0;world 1 0 0;fact : a = 0;fact : a = 1;person;person;person;");
        Check.row(bare, 0, 0, 99, 99, 99, 1);
        due("48 of three", 3, bare.copy(0));
        due("48 all can be", 4, bare.perform(0));
        due("48 the fourth stays", 3, bare.person(0, 0));
        // all of eight facts are -1 in 8 bits: a day
        StringBuilder text = new StringBuilder("world 0 0 0;");
        for (int i = 0; i < 8; i++) {
            text.append("fact : 1 = 1;");
        }
        KnowsLeast eight = Check.landed(text.append("person told 0 1 2 3 4 5 6 7;").toString());
        Check.row(eight, 0, 0, 77);
        due("48 cut", 1, eight.copy(0));
        due("48 cut to -1", 1, eight.judge(0, 1));
        Check.row(eight, 0, 1, 77);
        due("48 not cut", 1, eight.copy(0));
        due("48 it is 255", 0, eight.judge(0, 1));
    }

    private static int emptyCopy() {
        KnowsLeast k = new KnowsLeast();
        k.numbers(0, 0, 5);
        return k.copy(0);
    }

    private static void image() {
        KnowsLeast k = village();
        due("49 image", 0, k.image(0));
        due("49 the other", 0, k.image(1));
        due("49 no such", -2, k.image(2));
        due("49 below", -2, k.image(-1));
        k.tell(2, 0);
        due("49 undo stays", 1, k.count(4));
        due("49 again", 0, k.image(1));
        due("49 undo stays behind it", 1, k.count(4));
        k.restore(0);
        due("49 the first", 0, k.person(2, 0));
        k.restore(1);
        due("49 the second", 1, k.person(2, 0));
        due("49 of nothing", 0, new KnowsLeast().image(0));
    }

    private static void restore() {
        KnowsLeast k = village();
        due("50 none was made", -5, k.restore(0));
        due("50 no such", -2, k.restore(2));
        due("50 below", -2, k.restore(-1));
        k.image(1);
        due("50 the other one is none", -5, k.restore(0));
        k.tell(2, 0);
        k.isTrue(3);
        Check.land(k, "person;  world");
        Check.feed(k, "abc");
        Check.row(k, 0, 0, 7);
        due("50 restore", 0, k.restore(1));
        due("50 told", 0, k.person(2, 0));
        due("50 true", 1, k.count(3));
        due("50 nothing can be undone", 0, k.count(4));
        due("50 the tape is as it is", 20, k.count(8));
        due("50 rows are as they are", 7, k.write(0, 0, 7));
        due("50 the fault is as it is", 2, k.fault(0));
        k.land(0);
        due("50 no land", 0, k.count(0));
        due("50 from it", 0, k.restore(1));
        due("50 the land", 12, k.fact(0));
        due("50 roads", 2, k.person(0, 4));
        due("50 hints", 4, k.hints(1));
        due("50 lines", 13, k.count(9));
        due("50 weight", 2, k.world(2, 3));
        k.tell(2, 1);
        due("50 an image is not touched", 0, k.restore(1));
        due("50 told again", 0, k.person(2, 0));
    }

    private static void count() {
        KnowsLeast k = Check.landed(VILLAGE + "road 1 0;road 1 2;");
        k.tell(0, 0);
        k.feed(0, 0, 0, 0, 0);
        int[] want = {4, 3, 3, 1, 1, 2, 2, 5, 20, 15};
        for (int what = 0; what < want.length; what++) {
            due("51 count " + what, want[what], k.count(what));
        }
        for (int wrong : new int[] {-1, 10, LOW, HIGH}) {
            due("51 others", -1, k.count(wrong));
        }
        due("51 true without worlds", -1, Check.landed(NO_WORLDS).count(3));
    }
}
