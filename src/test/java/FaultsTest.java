/** Texts with their fault and its place, by each rule of the land's text; and what truths come to. */
public final class FaultsTest {
    private static final String SIXTEEN = "world 1 1 1;".repeat(16);
    private static final String EIGHT = "fact : 1 = 1;".repeat(8);
    private static final String SIX = "person;".repeat(6);

    private FaultsTest() {
    }

    public static void main(String[] args) {
        tokens();
        cannotStand();
        truthsCannotStand();
        bounds();
        tooMany();
        leastKindAndFirst();
        good();
        truths();
        kept();
        Check.end("FaultsTest");
    }

    private static void fault(String text, int kind, int place) {
        KnowsLeast k = new KnowsLeast();
        Check.due("land of '" + text + "'", -30 - kind, Check.land(k, text));
        Check.due("fault of '" + text + "'", kind, k.fault(0));
        Check.due("place of '" + text + "'", place, k.fault(1));
        Check.due("lines of '" + text + "'", 0, k.count(9));
    }

    private static void lines(String text, int lines) {
        KnowsLeast k = new KnowsLeast();
        Check.due("land of '" + text + "'", lines, Check.land(k, text));
        Check.due("no fault of '" + text + "'", 0, k.fault(0));
        Check.due("no place of '" + text + "'", -1, k.fault(1));
        Check.due("lines of '" + text + "'", lines, k.count(9));
    }

    private static void tokens() {
        for (int c = 0; c < 256; c++) {
            boolean token = c >= 'a' && c <= 'z' || c >= '0' && c <= '9' || ";:+-*()[]=<>".indexOf(c) >= 0;
            if (c != 10 && c != 32) {
                fault("person; " + (char) c, token ? 2 : 1, 8);
            }
        }
        fault("world 1234 1 1;", 1, 6);
        fault("world 1 0000 1;", 1, 8);
        fault("fact : a = 1000;", 1, 11);
        fault("person;1234", 1, 7);
        lines("world 001 099 99;", 1);
        lines("world1 2 3weight4guilty;fact:a=1and b=2or(c)=3;", 2);
        lines("\n world\n1 2\n\n3 ; \n", 1);
        fault("worl d 1 2 3;", 2, 0);
        fault("worlds 1 2 3;", 2, 0);
        fault("fact : ab = 1;", 2, 7);
        fault("world 1 1 1\t;", 1, 11);
        fault("world 1 1 1\r;", 1, 11);
    }

    private static void cannotStand() {
        fault(" ;", 2, 1);
        fault("person;;", 2, 7);
        fault("world", 2, 5);
        fault("world  ", 2, 7);
        fault("world 1 2 ", 2, 10);
        fault("world 1 2 3", 2, 11);
        fault("world 1 2 3 4;", 2, 12);
        fault("world 1 2;", 2, 9);
        fault("world a 2 3;", 2, 6);
        fault("world 1 2 3 weight;", 2, 18);
        fault("world 1 2 3 weight guilty;", 2, 19);
        fault("world 1 2 3 weight 1 2;", 2, 21);
        fault("world 1 2 3 weight 1 weight 1;", 2, 21);
        fault("world 1 2 3 guilty guilty;", 2, 19);
        fault("world 1 2 3 guilty weight 1;", 2, 19);
        fault("world 1 2 3 world 1 2 3;", 2, 12);
        fault("person 0;", 2, 7);
        fault("person told ;", 2, 12);
        fault("fact:1=1;person told 0 told 0;", 2, 23);
        fault("fact:1=1;person told 0 person;", 2, 23);
        fault("person;person;road 0;", 2, 20);
        fault("person;person;road 0 1 1;", 2, 23);
        fault("fact:1=1;hint 0;", 2, 15);
        fault("fact:1=1;hint 0 0 0;", 2, 18);
        fault("world 1 1 1;true ;", 2, 17);
        fault("world 1 1 1;true 0 0;", 2, 19);
        fault("not 1 = 1;", 2, 0);
        fault("weight 1;", 2, 0);
        fault("a = 1;", 2, 0);
        fault("7;", 2, 0);
    }

    private static void truthsCannotStand() {
        fault("fact", 2, 4);
        fault("fact 1 = 1;", 2, 5);
        fault("fact : ;", 2, 7);
        fault("fact : 1;", 2, 8);
        fault("fact : 1 = ;", 2, 11);
        fault("fact : 1 = 1", 2, 12);
        fault("fact : 1 = 1 = 1;", 2, 13);
        fault("fact : 1 < 1 > 1;", 2, 13);
        fault("fact : = 1;", 2, 7);
        fault("fact : - 1 = 1;", 2, 7);
        fault("fact : 1 + = 1;", 2, 11);
        fault("fact : 1 + * 1 = 1;", 2, 11);
        fault("fact : 1 1 = 1;", 2, 9);
        fault("fact : a b = 1;", 2, 9);
        fault("fact : not ;", 2, 11);
        fault("fact : 1 = not 1;", 2, 11);
        fault("fact : 1 = 1 not 1 = 1;", 2, 13);
        fault("fact : 1 = 1 and ;", 2, 17);
        fault("fact : 1 = 1 or and 1 = 1;", 2, 16);
        fault("fact : and 1 = 1;", 2, 7);
        fault("fact : (1 = 1);", 2, 10);
        fault("fact : (1) ;", 2, 11);
        fault("fact : ();", 2, 8);
        fault("fact : (1] = 1;", 2, 9);
        fault("fact : 1) = 1;", 2, 8);
        fault("fact : (1 and 2) = 1;", 2, 10);
        fault("fact : (not 1) = 1;", 2, 8);
        fault("fact : ([1]) = 1;", 2, 8);
        fault("fact : [1] = 1;", 2, 9);
        fault("fact : [1 = 1) ;", 2, 13);
        fault("fact : [1 = 1] = 1;", 2, 15);
        fault("fact : [1 = 1] 1;", 2, 15);
        fault("fact : [1 = 1]] ;", 2, 14);
        fault("fact : [];", 2, 8);
        fault("fact : 1 = [1 = 1];", 2, 11);
        fault("fact : person = 1;", 2, 7);
        fault("fact : true = 1;", 2, 7);
        fault("fact : d = 1;", 2, 7);
        fault("fact : 1 = 1 xor 1 = 1;", 2, 13);
    }

    private static void bounds() {
        fault("world 100 1 1;", 3, 6);
        fault("world 1 100 1;", 3, 8);
        fault("world 1 1 100;", 3, 10);
        fault("world 1 1 1 weight 0;", 3, 19);
        fault("world 1 1 1 weight 10;", 3, 19);
        fault("person told 0;", 3, 12);
        fault("fact:1=1;person told 1;", 3, 21);
        fault("fact:1=1;person told 0 0 1;", 3, 25);
        fault("person told 0;fact:1=1;", 3, 12);
        fault("road 0 1;", 3, 5);
        fault("person;road 0 1;", 3, 14);
        fault("person;road 0 0;", 3, 14);
        fault("person;person;road 1 1;", 3, 21);
        fault("person;person;road 2 0;", 3, 19);
        fault("hint 0 0;", 3, 5);
        fault("fact:1=1;hint 1 0;", 3, 14);
        fault("fact:1=1;hint 0 1;", 3, 16);
        fault("true 0;", 3, 5);
        fault("world 1 1 1;true 1;", 3, 17);
        fault("true 0;world 1 1 1;", 3, 5);
    }

    private static void tooMany() {
        lines(SIXTEEN, 16);
        fault(SIXTEEN + "world 1 1 1;", 4, 192);
        fault(SIXTEEN + "world $", 4, 192);
        lines(EIGHT, 8);
        fault(EIGHT + " fact;", 4, 105);
        lines(SIX, 6);
        fault(SIX + "person told;", 4, 42);
        lines("fact:" + "not ".repeat(6) + "1=1;", 1);
        fault("fact:" + "not ".repeat(7) + "1=1;", 4, 29);
        lines("fact:" + "[".repeat(6) + "1=1" + "]".repeat(6) + ";", 1);
        fault("fact:" + "[".repeat(7) + "1=1" + "]".repeat(7) + ";", 4, 11);
        lines("fact:" + "(".repeat(6) + "1" + ")".repeat(6) + "=1;", 1);
        fault("fact:" + "(".repeat(7) + "1" + ")".repeat(7) + "=1;", 4, 11);
        lines("fact:not[not[((1))=1]];", 1);
        fault("fact:not[not[(((1)))=1]];", 4, 15);
        fault("fact:not[not[((1))=1+(2*(3))+((1+(2)))]];", 4, 33);
        // what has been closed counts no more
        lines("fact:not not not 1=1 and not not not not not not 1=1 or [[[[[[1+1=2]]]]]] and ((((((1))))))=1;", 1);
        lines("fact:not not not not not(1)=1;", 1);
        lines("fact:not not not not not(1)*(2)=(1)and not[((((1))))=1];", 1);
        fault("fact:not not not not not not(1)=1;", 4, 28);
    }

    private static void leastKindAndFirst() {
        // of one token the least kind
        fault("person told 1000;", 1, 12);
        fault("world 1 1 1 100;", 2, 12);
        fault(SIXTEEN + "person world 1 1 1;", 2, 199);
        fault("fact:[[[[[[1 [ ;", 2, 13);
        fault("fact:not not not not not not 1=1 not;", 2, 33);
        fault("fact:((((((1 ( ;", 2, 13);
        fault("fact:not not not not not not ( [ ;", 4, 29);
        // the first along the text
        fault("person told 0 $", 3, 12);
        fault("road $ 5;", 1, 5);
        fault("worl $", 2, 0);
        fault("world 100 $ 1", 3, 6);
        fault("world 1 1 1 weight 0 weight", 3, 19);
    }

    private static void good() {
        lines("", 0);
        lines(" \n ", 0);
        lines("person;world 0 0 0;fact:1=1;person told 0;road 0 1;hint 0 0;true 0;", 7);
        lines("person;person;road 0 1;road 1 0;road 0 1;", 5);
    }

    private static int value(String truth, int w) {
        KnowsLeast k = Check.landed("fact : " + truth + ";world 3 5 7;world 10 0 99 weight 4 guilty;");
        return k.fact(0) >> w & 1;
    }

    private static void holds(String truth, int first, int second) {
        Check.due("in world 0: " + truth, first, value(truth, 0));
        Check.due("in world 1: " + truth, second, value(truth, 1));
    }

    private static void truths() {
        holds("a = 3", 1, 0);
        holds("b < 1", 0, 1);
        holds("c > 98", 0, 1);
        holds("world = 1", 0, 1);
        holds("weight = 4", 0, 1);
        holds("guilty = 1", 0, 1);
        holds("a + b * 2 = 13", 1, 0);
        holds("(a + b) * 2 = 16", 1, 0);
        holds("c - b - a < 0", 1, 0);
        holds("c - (b - a) = 5", 1, 0);
        holds("c - b + a = 5", 1, 0);
        holds("not a = 3 and b = 0", 0, 1);
        holds("not [a = 3 or b = 0]", 0, 0);
        holds("not not a = 3", 1, 0);
        holds("not a = 3 or a = 3", 1, 1);
        // and binds more than or
        holds("a = 3 or a = 10 and b = 5", 1, 0);
        holds("[a = 3 or a = 10] and b = 0", 0, 1);
        holds("b = 0 and a = 4 or b = 5", 1, 0);
        holds("a = 3 and b = 5 and c = 7 or b > 0 and c < 7 or weight > 8", 1, 0);
        holds("2 * 3 * 4 - 4 * 6 = world", 1, 0);
    }

    private static void kept() {
        holds("999 * 999 * 999 = 999 * 999 * 2", 1, 1);
        holds("999 * 999 < 999 * 999 + 1", 1, 1);
        // 998001 + 1999 is the most; one more is nothing more
        holds("999 * 999 + 999 + 999 + 1 = 999 * 999 * 999", 1, 1);
        holds("999 * 999 + 999 + 999 + 2 = 999 * 999 * 999", 1, 1);
        holds("999 * 999 + 999 + 999 = 999 * 999 * 999", 0, 0);
        // kept at each sign: what is beyond is lost
        holds("999 * 999 * 999 - 999 * 999 = 999 + 999 + 1", 1, 1);
        holds("999 * 999 * 2 - 999 * 999 < 999 + 999 + 2", 1, 1);
        holds("(0 - 999) * 999 * 999 = 0 - 999 * 999 - 999 - 999 - 999", 1, 1);
        holds("(0 - 999) * 999 * 999 + 999 * 999 = 0 - 999 - 999 - 1", 1, 1);
        holds("(0 - 999 * 999 * 999) * (999 * 999 * 999) = 0 - 999 * 999 * 999", 1, 1);
        holds("0 * 999 * 999 * 999 * 999 = 0", 1, 1);
    }
}
