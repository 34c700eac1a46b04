/** Bounds that the document's Terms name: the land's text, tokens and faults. Bounds of what is done by it: RuleBounds. */
final class TermBounds {
    private static final String SIXTEEN = "world 1 1 1;".repeat(16);
    private static final String EIGHT = "fact:1=1;".repeat(8);
    private static final String SIX = "person;".repeat(6);

    private TermBounds() {
    }

    static void all() {
        textOfAtMost900();
        withoutText();
        atMostSixWithin();
        numbersOfWorld();
        weightOfWorld();
        worldsAtMost();
        factsAtMost();
        toldAhead();
        peopleAtMost();
        roads();
        hints();
        trueWorld();
        blanks();
        words();
        digits();
        signs();
        asLongAsTheyGoOn();
        firstAlongTheText();
        leastKind();
        noTokenBeginsSo();
        cannotStand();
        outOfBounds();
        tooMany();
    }

    private static void said(String words) {
        Sentences.said(Sentences.TERMS, words);
    }

    private static void due(String call, long want, long got) {
        Sentences.due(call, want, got);
    }

    /** A text with a fault, its kind and place; land, people, deeds are as they were. */
    static void fault(String text, int kind, int place) {
        KnowsLeast k = Check.landed("world 1 2 3;fact:a=1;person;");
        k.tell(0, 0);
        due("land of '" + text + "'", -30 - kind, Check.land(k, text));
        due("kind of the fault of '" + text + "'", kind, k.fault(0));
        due("its place in '" + text + "'", place, k.fault(1));
        due("lines as they were, behind '" + text + "'", 3, k.count(9));
        due("told as it was, behind '" + text + "'", 1, k.person(0, 0));
        due("deeds to undo as they were, behind '" + text + "'", 1, k.count(4));
    }

    /** A text without a fault: the object that has it. */
    static KnowsLeast good(String text, int lines) {
        KnowsLeast k = new KnowsLeast();
        due("land of '" + text + "'", lines, Check.land(k, text));
        due("no fault of '" + text + "'", 0, k.fault(0));
        due("no place in '" + text + "'", -1, k.fault(1));
        return k;
    }

    private static void textOfAtMost900() {
        said("THE LAND is a TEXT of at most 900 bytes");
        String blank = " ".repeat(900);
        KnowsLeast k = good(blank.substring(0, 880) + "person;world 1 2 34;", 2);
        due("the last world of 900 bytes", 34, k.world(0, 2));
        good("person;" + blank.substring(0, 893), 1);
        // full of tokens, and of what they come to
        fault(";".repeat(900), 2, 0);
        fault("(".repeat(900), 2, 0);
        fault("fact:1" + "+1".repeat(447), 2, 900);
        due("many of '+'", 1, good("world 1 1 1;fact:" + "1+".repeat(438) + "1=439;", 2).fact(0));
        due("many that are told", 1, good("fact:1=1;person told" + " 0".repeat(435) + ";", 2).person(0, 0));
        due("many of 'or'", 1, good("world 1 1 1;fact:" + "1=2or ".repeat(146) + "1=1;", 2).fact(0));
        due("many of 'and'", 0, good("world 1 1 1;fact:" + "1=1and ".repeat(125) + "1=2;", 2).fact(0));
        due("many of '*'", 1, good("world 1 1 1;fact:" + "2*".repeat(437) + "1>999;", 2).fact(0));
        due("many lines", 100, good("fact:1=1;" + "hint 0 0;".repeat(99), 100).count(9));
        fault(blank.substring(0, 894) + "person", 2, 900);
        fault(blank.substring(0, 899) + "$", 1, 899);
        due("all 900 are read", 900, Check.feed(k, blank));
        due("none behind them", -5, k.feed(0, 0, 0, 0, 0));
        due("no more on the tape", 900, k.count(8));
        due("no text of 901", -3, k.land(901));
        due("a text of 900", 0, k.land(900));
    }

    private static void withoutText() {
        said("(without one: no WORLDS)");
        due("a new object", 0, new KnowsLeast().count(0));
        due("a new object's true world", -1, new KnowsLeast().count(3));
        KnowsLeast k = Check.landed("world 1 2 3;");
        due("the empty text", 0, k.land(0));
        due("no worlds by it", 0, k.count(0));
        due("no true world by it", -1, k.count(3));
        due("no such world", -2, k.world(0, 0));
    }

    private static void atMostSixWithin() {
        said("At most six of not [ ( within one another.");
        for (int n = 0; n <= 6; n++) {
            due(n + " of not", (n + 1) % 2, good("world 1 1 1;fact:" + "not ".repeat(n) + "1=1;", 2).fact(0));
        }
        good("fact:" + "[".repeat(6) + "1=1" + "]".repeat(6) + ";", 1);
        good("fact:" + "(".repeat(6) + "1" + ")".repeat(6) + "=1;", 1);
        good("fact:1=1*" + "(".repeat(6) + "1" + ")".repeat(6) + ";", 1);
        good("fact:not[not[((1))=((2))]];", 1);
        good("fact:not not not[((1))=((2))or not(3)<4];", 1);
        // one behind the other are not within one another
        good("fact:" + "not 1=1 and ".repeat(20) + "not not not not not not 1=1;", 1);
        good("fact:" + "[1=1]or".repeat(20) + "[[[[[[1=1]]]]]];", 1);
        good("fact:" + "(1)+".repeat(20) + "((((((1))))))=(1);", 1);
        fault("fact:" + "not ".repeat(7) + "1=1;", 4, 29);
        fault("fact:" + "[".repeat(7) + "1=1" + "]".repeat(7) + ";", 4, 11);
        fault("fact:" + "(".repeat(7) + "1" + ")".repeat(7) + "=1;", 4, 11);
        fault("fact:1=1*" + "(".repeat(7) + "1" + ")".repeat(7) + ";", 4, 15);
        fault("fact:not[not[((1))=(((2)))]];", 4, 21);
        fault("fact:not not not[((1))=1 or not[3<(4)]];", 4, 34);
        fault("fact:[[[[[[not 1=1]]]]]];", 4, 11);
        fault("fact:not not not not not not[1=1];", 4, 28);
        fault("fact:not not not not not not(1)=1;", 4, 28);
        fault("fact:" + "(".repeat(800) + ";", 4, 11);
    }

    private static void numbersOfWorld() {
        said("world: its a, b, c, 0 to 99 each");
        KnowsLeast k = good("world 0 0 0;world 99 99 99;world 000 099 00;", 3);
        int[] want = {0, 0, 0, 99, 99, 99, 0, 99, 0};
        for (int i = 0; i < 9; i++) {
            due("world(" + i / 3 + ", " + i % 3 + ")", want[i], k.world(i / 3, i % 3));
        }
        fault("world 100 0 0;", 3, 6);
        fault("world 0 100 0;", 3, 8);
        fault("world 0 0 100;", 3, 10);
        fault("world 0 0 999;", 3, 10);
        // there are no numbers below 0
        fault("world - 1 0 0;", 2, 6);
        fault("world 0 -1 0;", 2, 8);
    }

    private static void weightOfWorld() {
        said("weight 1 to 9 (1)");
        KnowsLeast k = good("world 0 0 0 weight 1;world 0 0 0 weight 9;world 0 0 0 weight 009;world 0 0 0;", 4);
        int[] want = {1, 9, 9, 1};
        for (int w = 0; w < 4; w++) {
            due("world(" + w + ", 3)", want[w], k.world(w, 3));
        }
        due("all weight", 20, k.count(7));
        fault("world 0 0 0 weight 0;", 3, 19);
        fault("world 0 0 0 weight 10;", 3, 19);
        fault("world 0 0 0 weight 999 guilty;", 3, 19);
    }

    private static void worldsAtMost() {
        said("numbered from 0 on, 16 at most. fact");
        KnowsLeast k = good(SIXTEEN, 16);
        due("worlds", 16, k.count(0));
        due("the last one", 1, k.world(15, 0));
        due("the first that is none", -2, k.world(16, 0));
        KnowsLeast one = good("world 7 1 1;", 1);
        due("from 0 on", 7, one.world(0, 0));
        due("one alone", -2, one.world(1, 0));
        fault(SIXTEEN + "world 1 1 1;", 4, 192);
    }

    private static void factsAtMost() {
        said("fact: 8 at most, numbered from 0 on.");
        KnowsLeast k = good("world 1 1 1;" + EIGHT, 9);
        due("facts", 8, k.count(1));
        due("the last one", 1, k.fact(7));
        due("the first that is none", -2, k.fact(8));
        KnowsLeast one = good("world 1 1 1;fact:1=1;", 2);
        due("from 0 on", 1, one.fact(0));
        due("one alone", -2, one.fact(1));
        fault(EIGHT + "fact:1=1;", 4, 72);
    }

    private static void toldAhead() {
        said("person: told FACTS (numbers of facts that are told ahead)");
        KnowsLeast k = good(EIGHT + "person told 7;person told 0 1 2 3 4 5 6 7;person told 0 0 0;person;", 12);
        int[] want = {128, 255, 1, 0};
        for (int p = 0; p < 4; p++) {
            due("told to " + p, want[p], k.person(p, 0));
        }
        fault("person told 0;", 3, 12);
        fault("person told 0;fact:1=1;", 3, 12);
        fault("fact:1=1;person told 1;", 3, 21);
        fault("fact:1=1;person told 0 1;fact:1=1;", 3, 23);
        fault(EIGHT + "person told 7 8;", 3, 86);
        fault(EIGHT + "person told 999;", 3, 84);
        fault("fact:1=1;person told;", 2, 20);
    }

    private static void peopleAtMost() {
        said("numbered from 0 on, 6 at most.");
        KnowsLeast k = good(SIX, 6);
        due("people", 6, k.count(2));
        due("the last one", 0, k.person(5, 0));
        due("the first that is none", -2, k.person(6, 0));
        due("from 0 on, one alone", -2, good("person;", 1).person(1, 0));
        fault(SIX + "person;", 4, 42);
    }

    private static void roads() {
        said("road: between two unlike PEOPLE told ahead (again: nothing more).");
        KnowsLeast k = good(SIX + "road 5 0;road 0 1;road 1 0;road 0 1;", 10);
        due("roads", 2, k.count(5));
        due("lines, each once more", 10, k.count(9));
        int[] want = {34, 1, 0, 0, 0, 1};
        for (int p = 0; p < 6; p++) {
            due("roads from " + p, want[p], k.person(p, 4));
        }
        StringBuilder all = new StringBuilder(SIX);
        for (int p = 0; p < 6; p++) {
            for (int q = p + 1; q < 6; q++) {
                all.append("road ").append(p).append(' ').append(q).append(';');
            }
        }
        due("all roads", 15, good(all.toString(), 21).count(5));
        fault("road 0 1;", 3, 5);
        fault("person;road 0 0;", 3, 14);
        fault("person;road 0 1;", 3, 14);
        fault("person;road 1 0;", 3, 12);
        fault(SIX + "road 6 0;", 3, 47);
        fault(SIX + "road 5 6;", 3, 49);
        fault(SIX + "road 5 5;", 3, 49);
        fault("person;road 0 1;person;", 3, 14);
    }

    private static void hints() {
        said("hint: being asked the first FACT one is told the second one, both told ahead (again: nothing more; both may be"
                + " one).");
        KnowsLeast k = good(EIGHT + "hint 0 7;hint 7 7;hint 7 0;hint 0 7;person;", 13);
        due("hints(0)", 128, k.hints(0));
        due("hints(7)", 129, k.hints(7));
        k.ask(0, 7);
        due("told by a hint of one itself", 129, k.person(0, 0));
        fault("hint 0 0;", 3, 5);
        fault("fact:1=1;hint 1 0;", 3, 14);
        fault("fact:1=1;hint 0 1;fact:1=1;", 3, 16);
        fault(EIGHT + "hint 8 0;", 3, 77);
        fault(EIGHT + "hint 7 8;", 3, 79);
    }

    private static void trueWorld() {
        said("true: a world told ahead is so (0 without); later ones strike.");
        due("0 without", 0, good("world 1 1 1;world 2 2 2;", 2).count(3));
        due("the first", 0, good("world 1 1 1;true 0;world 2 2 2;", 3).count(3));
        due("the last of sixteen", 15, good(SIXTEEN + "true 15;", 17).count(3));
        due("a later one", 1, good(SIXTEEN + "true 15;true 1;", 18).count(3));
        fault("true 0;", 3, 5);
        fault("world 1 1 1;true 1;", 3, 17);
        fault("true 0;world 1 1 1;", 3, 5);
        fault(SIXTEEN + "true 16;", 3, 197);
        fault(SIXTEEN + "true 15;true 16;", 3, 205);
    }

    private static void blanks() {
        said("between them blanks (10, 32)");
        good("\n \nperson\n \n;\n \n", 1);
        good(" world\n1 2\n3 ;", 1);
        good("world1 2 3weight4guilty;fact:a=1and b=2or(c)=3;", 2);
        for (int c : new int[] {0, 9, 11, 12, 13, 31, 33, 127, 128 + 10, 128 + 32, 255}) {
            fault("person;" + (char) c + "person;", 1, 7);
            fault("person" + (char) c + ";", 1, 6);
        }
    }

    private static void words() {
        said("words (small letters)");
        // a word of other small letters can't stand there; what is no small letter begins no token
        fault("z;", 2, 0);
        fault("a;", 2, 0);
        fault("personz;", 2, 0);
        fault("persona;", 2, 0);
        for (char c : new char[] {'A', 'Z', '`', '{', '@', '_', 'a' + 128, 'z' + 128}) {
            fault("person;" + c, 1, 7);
            fault("person" + c + ";", 1, 6);
        }
        fault("Person;", 1, 0);
    }

    private static void digits() {
        said("N (1 to 3 digits)");
        KnowsLeast k = good("world 9 09 009;fact:a=9 and b=9 and c=9;fact:999>998;fact:000=0;", 4);
        for (int f = 0; f < 3; f++) {
            due("fact(" + f + ")", 1, k.fact(f));
        }
        fault("world 0009 1 1;", 1, 6);
        fault("fact:1=1000;", 1, 7);
        fault("fact:0000=0;", 1, 5);
        fault("world /1 1 1;", 1, 6);
        fault("world :1 1 1;", 2, 6);
    }

    private static void signs() {
        said("the signs ; : + - * ( ) [ ] = < >.");
        String signs = ";:+-*()[]=<>";
        for (int c = 33; c < 256; c++) {
            boolean other = c >= '0' && c <= '9' || c >= 'a' && c <= 'z';
            if (!other) {
                fault("person;" + (char) c, signs.indexOf(c) >= 0 ? 2 : 1, 7);
            }
        }
    }

    private static void asLongAsTheyGoOn() {
        said("TOKENS, as long as they go on");
        fault("personperson;", 2, 0);
        fault("world 12 34 5 weightguilty 1;", 2, 14);
        fault("fact:not1=1 ora=1;", 2, 12);
        fault("fact:ab=1;", 2, 5);
        fault("world 111222333;", 1, 6);
        due("digits up to a letter", 3, good("world 1 2 3guilty;", 1).world(0, 2));
        due("each of them", 12, good("world 12 34 5;", 1).world(0, 0));
    }

    private static void firstAlongTheText() {
        said("FAULTS, the first along the text");
        fault("world 100 $ 1", 3, 6);
        fault("worl $ 1000", 2, 0);
        fault("road $ 5;", 1, 5);
        fault(SIXTEEN + "world 1000", 4, 192);
        fault("person told 0 $", 3, 12);
        fault("person $ 0", 1, 7);
        fault("fact:1=1 1;$", 2, 9);
    }

    private static void leastKind() {
        said("of one TOKEN the least kind");
        // no number, and more than its bound; can't stand there, and out of bounds; can't stand, and one too many
        fault("world 1000 0 0;", 1, 6);
        fault("world 0 0 0 100;", 2, 12);
        fault("world 0 0 0 weight 1 0;", 2, 21);
        fault(SIXTEEN + "person world 1 1 1;", 2, 199);
        fault(EIGHT + "person fact:1=1;", 2, 79);
        fault(SIX + "road person;", 2, 47);
        fault("fact:((((((1(2))))))=1;", 2, 12);
        fault("fact:[[[[[[1[2]]]]]];", 2, 12);
        fault("fact:not not not not not not 1 not;", 2, 31);
        // without people neither is told ahead; the same one twice
        fault("road 0 0;", 3, 5);
    }

    private static void noTokenBeginsSo() {
        said("1 no TOKEN begins so (4 digits and more: at their first).");
        fault("$", 1, 0);
        fault("\u00ff", 1, 0);
        fault("1234", 1, 0);
        fault("  12345", 1, 2);
        fault("world 1 2 " + "9".repeat(800) + ";", 1, 10);
        fault("world 1 2 999;", 3, 10);
        fault("world 1 2 0999;", 1, 10);
    }

    private static void cannotStand() {
        said("2 it can't stand there (the end: the text's length).");
        fault(";", 2, 0);
        fault("person;;", 2, 7);
        fault("person", 2, 6);
        fault("person \n ", 2, 9);
        fault("world 1 2 3", 2, 11);
        fault("fact:1=1", 2, 8);
        fault("fact:1", 2, 6);
        fault("fact:1;", 2, 6);
        fault("fact:;", 2, 5);
        fault("fact:1=;", 2, 7);
        fault("fact:1+;", 2, 7);
        fault("fact:[1=1", 2, 9);
        fault("fact:not", 2, 8);
        fault("person told", 2, 11);
        fault("road", 2, 4);
        fault("hint", 2, 4);
        fault("true", 2, 4);
        good("", 0);
        good(" ", 0);
    }

    private static void outOfBounds() {
        said("3 an N out of its bounds (what isn't told ahead; the second PERSON of a road that is the first).");
        fault("person;road 0 0;", 3, 14);
        fault("person;person;road 1 1;", 3, 21);
        fault("person;person;road 2 2;", 3, 19);
        fault("person;person;road 0 2;", 3, 21);
        fault("world 1 1 1;fact:1=1;person;true 1;", 3, 33);
        fault("world 1 1 1;fact:1=1;person;person told 1;", 3, 40);
        fault("world 1 1 1;fact:1=1;person;hint 0 1;", 3, 35);
        // an N of a truth has no bounds but its digits
        good("fact:0=999;", 1);
    }

    private static void tooMany() {
        said("4 the first TOKEN of a 17th world, a 9th fact, a 7th person; a seventh of not [ (.");
        fault(SIXTEEN + " world", 4, 193);
        fault(SIXTEEN + "\nworld 100 $", 4, 193);
        fault(EIGHT + " fact", 4, 73);
        fault(EIGHT + "fact 1 = $", 4, 72);
        fault(SIX + " person", 4, 43);
        fault(SIX + "person told 0;", 4, 42);
        fault("fact:not not not not not not not $", 4, 29);
        fault("fact:[[[[[[[$", 4, 11);
        fault("fact:((((((($", 4, 11);
        // each kind by its own number
        due("all of each", 30, good(SIXTEEN + EIGHT + SIX, 30).count(9));
        fault(SIXTEEN + EIGHT + SIX + "person;", 4, 306);
        fault(SIXTEEN + EIGHT + SIX + "fact:1=1;", 4, 306);
        fault(SIXTEEN + EIGHT + SIX + "world 1 1 1;", 4, 306);
    }
}
