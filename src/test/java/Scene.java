/** Objects to call, as they are after the same calls each time (so that two of them can be compared). */
enum Scene {
    /** A new object. */
    NEW,
    /** Four worlds, three facts, three people; a bit of everything: deeds to undo, one image, rows, a fault. */
    BUSY,
    /** All that a land, the tape, rows, images and the past can have. */
    FULL,
    /** Two facts and two people, but no worlds. */
    NO_WORLDS,
    /** Two worlds and a fact, but no people. */
    NO_PEOPLE,
    /** Two worlds and two people, but no facts. */
    NO_FACTS;

    /** Fact 0 holds in 2 and 3, fact 1 in 0 and 3, fact 2 in the guilty ones, 1 and 3. */
    static final String VILLAGE = "world 1 0 0;world 2 0 0 guilty;world 3 1 0 weight 2;world 4 1 0 guilty;"
            + "fact : a > 2;fact : b = 0 and a < 2 or world = 3;fact : guilty = 1;"
            + "person told 0;person told 1;person;road 0 1;hint 1 2;true 1;";
    /** What is on the tape of a busy object: 28 bytes, and 12 blanks behind them. */
    static final String TAPED = "world 5 6 7 weight 8;person;";

    KnowsLeast make() {
        switch (this) {
            case BUSY:
                return busy();
            case FULL:
                return full();
            case NO_WORLDS:
                return withRows("fact : 1 = 2;fact : 1 = 1;person;person told 0;hint 0 1;road 0 1;");
            case NO_PEOPLE:
                return withRows("world 1 2 3 guilty;world 4 5 6;fact : a = 1;");
            case NO_FACTS:
                return withRows("world 1 2 3 guilty;world 4 5 6;person;person;road 0 1;");
            default:
                return new KnowsLeast();
        }
    }

    /** Told at the end: 0 0, 1 1, 2 0 2; true is 3; rows of 6 deeds, 2 facts, no number, and a missing one. */
    private static KnowsLeast busy() {
        KnowsLeast k = Check.landed("world 7 8 9 weight 3 guilty;fact : a = 7;person told 0;");
        k.image(0);
        Check.land(k, VILLAGE);
        Check.land(k, "world 1 2 3;world 100");
        k.tell(2, 0);
        k.isTrue(3);
        k.ask(2, 1);
        Check.row(k, 0, 1, 21, 122, -1, 1, 300, 5);
        Check.row(k, 1, 0, 0, 1);
        Check.row(k, 2, 3);
        Check.feed(k, TAPED);
        return k;
    }

    /**
     * Sixteen worlds, of number i: a is i, b 33 times i modulo 4, c 99 in the last; eight facts, six people, each
     * told one fact more than the one before, but for the last; a street; true is the last world.
     */
    static String fullText() {
        StringBuilder text = new StringBuilder();
        for (int i = 0; i < 16; i++) {
            text.append("world ").append(i).append(' ').append(33 * (i % 4)).append(i == 15 ? " 99" : " 0");
            text.append(i == 15 ? " weight 9" : "").append(i >= 12 ? " guilty;" : ";");
        }
        // as bits of worlds: ff00 cccc aaaa 8000 f000 8000 ffff f0f0
        text.append("fact:a>7;fact:b>33;fact:b=33 or b=99;fact:world=15;fact:guilty=1;fact:weight>8;fact:1=1;");
        text.append("fact:a>3 and a<8 or a>11;");
        text.append("person;person told 0;person told 0 7;person told 0 7 1;person told 0 7 1 2;person told 6;");
        text.append("road 0 1;road 1 2;road 2 3;road 3 4;road 4 5;hint 7 0;hint 7 7;true 15;");
        return text.toString();
    }

    /** The land as it is told, twelve calls that can be undone, 900 bytes on the tape, rows of forty numbers. */
    private static KnowsLeast full() {
        KnowsLeast k = Check.landed(TAPED);
        k.image(1);
        Check.land(k, fullText());
        k.image(0);
        for (int i = 0; i < 12; i++) {
            k.isTrue(i == 11 ? 15 : i);
        }
        for (int row = 0; row < 4; row++) {
            k.numbers(row, row, 40);
            k.write(row, 0, 57);
            k.write(row, 39, row == 3 ? Long.MAX_VALUE : 60);
        }
        Check.feed(k, TAPED + " ".repeat(865) + "person;");
        return k;
    }

    private static KnowsLeast withRows(String text) {
        KnowsLeast k = Check.landed(text);
        k.days(1);
        Check.row(k, 0, 0, 0);
        Check.row(k, 1, 2, 0, 1, 1L << 20);
        Check.row(k, 2, 3);
        Check.feed(k, TAPED);
        return k;
    }
}
