import java.util.Random;

/** Long runs of calls by draws: the program answers as the plain model does. */
public final class ModelTest {
    private static final int RUNS = 300;
    private static final int CALLS = 200;
    private static final int[] EDGES = {Integer.MIN_VALUE, -2147483638, -101, -100, -2, 100, 1000, Integer.MAX_VALUE};

    private final Random random;
    private final Texts texts;
    private final KnowsLeast k = new KnowsLeast();
    private final PlainModel m = new PlainModel();
    private final StringBuilder told = new StringBuilder();

    private ModelTest(int seed) {
        random = new Random(seed);
        texts = new Texts(random);
    }

    public static void main(String[] args) {
        for (int seed = 0; seed < RUNS; seed++) {
            new ModelTest(seed).run(seed);
        }
        Check.end("ModelTest");
    }

    private void run(int seed) {
        int before = Check.wrongSoFar();
        newLand();
        for (int i = 0; i < CALLS && Check.wrongSoFar() == before; i++) {
            if (random.nextInt(70) == 0) {
                newLand();
            }
            call();
        }
        if (Check.wrongSoFar() != before) {
            System.out.println("run " + seed + ": " + told);
        }
    }

    private void due(String call, long want, long got) {
        told.append(call).append(' ').append(got).append("; ");
        Check.due(call, want, got);
    }

    private void newLand() {
        String text = texts.land();
        if (random.nextInt(3) == 0) {
            text = texts.otherwise(text);
        }
        told.append("\n  text ").append(text).append("\n  ");
        for (int i = 0; i < text.length(); i += 20) {
            feed((text + " ".repeat(20)).substring(i, i + 20));
        }
        int n = random.nextInt(30) == 0 ? random.nextInt(950) - 10 : text.length();
        due("land " + n, m.land(n), k.land(n));
        for (int what = -1; what < 3; what++) {
            due("fault " + what, m.fault(what), k.fault(what));
        }
        for (int what = 0; what < 10; what++) {
            due("count " + what, m.count(what), k.count(what));
        }
    }

    private void feed(String t) {
        int[] v = new int[5];
        for (int i = 0; i < 20; i++) {
            v[i / 4] = v[i / 4] << 8 | t.charAt(i);
        }
        due("feed", m.feed(t), k.feed(v[0], v[1], v[2], v[3], v[4]));
    }

    /** Mostly from 0 to below most, now and then next to it, or far off. */
    private int some(int most) {
        int what = random.nextInt(24);
        if (what == 0) {
            return EDGES[random.nextInt(EDGES.length)];
        }
        if (what <= 2) {
            return random.nextInt(most + 3) - 2;
        }
        return random.nextInt(Math.max(1, most));
    }

    private int person() {
        return some(k.count(2));
    }

    private int fact() {
        return some(k.count(1));
    }

    private int world() {
        return some(k.count(0));
    }

    private long number() {
        switch (random.nextInt(8)) {
            case 0:
                return -1;
            case 1:
                return random.nextLong();
            case 2:
                return 10L * random.nextInt(10) + random.nextInt(10) + 100L * random.nextInt(3);
            case 3:
                return fact();
            default:
                return 100L * random.nextInt(2) + 10L * random.nextInt(Math.max(1, k.count(2)))
                        + random.nextInt(Math.max(1, k.count(1)));
        }
    }

    private void fill(int row, boolean asked) {
        int n = asked ? some(6) : some(41);
        int sort = some(4);
        due("numbers " + row + " " + sort + " " + n, m.numbers(row, sort, n), k.numbers(row, sort, n));
        boolean plain = random.nextInt(6) != 0;
        for (int i = 0; i < Math.min(n, 41); i++) {
            long v = asked && plain ? random.nextInt(Math.max(1, k.count(1))) : number();
            due("write " + row + " " + i + " " + v, m.write(row, i, v), k.write(row, i, v));
        }
    }

    private void call() {
        switch (random.nextInt(6)) {
            case 0:
                ofLand();
                break;
            case 1:
                deed();
                break;
            case 2:
                known();
                break;
            case 3:
                least();
                break;
            case 4:
                judged();
                break;
            default:
                rest();
                break;
        }
    }

    private void ofLand() {
        int p = person();
        int f = fact();
        int w = world();
        int what = some(7);
        due("world " + w + " " + what, m.world(w, what), k.world(w, what));
        due("fact " + f, m.fact(f), k.fact(f));
        due("person " + p + " " + what, m.person(p, what), k.person(p, what));
        due("hints " + f, m.hints(f), k.hints(f));
        due("knows " + p + " " + f, m.knows(p, f), k.knows(p, f));
        due("cell " + p + " " + w, m.cell(p, w), k.cell(p, w));
        due("count " + what, m.count(what), k.count(what));
    }

    private void deed() {
        int p = person();
        int f = fact();
        int w = world();
        int row = some(4);
        int n = some(14);
        switch (random.nextInt(10)) {
            case 0:
                due("tell " + p + " " + f, m.tell(p, f), k.tell(p, f));
                break;
            case 1:
                due("ask " + p + " " + f, m.ask(p, f), k.ask(p, f));
                break;
            case 2:
                int days = random.nextInt(3) == 0 ? some(61) : some(3);
                due("days " + days, m.days(days), k.days(days));
                break;
            case 3:
                due("isTrue " + w, m.isTrue(w), k.isTrue(w));
                break;
            case 4:
                due("undo " + n, m.undo(n), k.undo(n));
                break;
            case 5:
            case 6:
                fill(row, false);
                int what = some(4);
                due("judge " + row + " " + what, m.judge(row, what), k.judge(row, what));
                break;
            case 7:
                due("perform " + row, m.perform(row), k.perform(row));
                break;
            case 8:
                int seed = random.nextInt();
                int times = random.nextInt(2) == 0 ? some(61) : some(6);
                due("year " + seed + " " + times, m.year(seed, times), k.year(seed, times));
                break;
            default:
                due("undo 1", m.undo(1), k.undo(1));
                break;
        }
        due("count 4", m.count(4), k.count(4));
        for (int q = 0; q < k.count(2); q++) {
            due("person " + q + " 0", m.person(q, 0), k.person(q, 0));
        }
        due("count 3", m.count(3), k.count(3));
    }

    private void known() {
        int f = fact();
        int p = person();
        int q = person();
        int n = some(21);
        int set = some(1 << k.count(2));
        due("everyone " + f, m.everyone(f), k.everyone(f));
        due("depth " + f, m.depth(f), k.depth(f));
        due("common", m.common(), k.common());
        due("reach " + n, m.reach(n), k.reach(n));
        due("together " + set, m.together(set), k.together(set));
        due("witnesses", m.witnesses(), k.witnesses());
        due("parting " + p + " " + q, m.parting(p, q), k.parting(p, q));
    }

    private void least() {
        int p = person();
        int by = some(4);
        int other = some(4);
        int what = some(2);
        due("measure " + p + " " + by, m.measure(p, by), k.measure(p, by));
        due("least " + by, m.least(by), k.least(by));
        due("seats " + p + " " + by, m.seats(p, by), k.seats(p, by));
        due("differ " + by + " " + other, m.differ(by, other), k.differ(by, other));
        due("appeals " + p + " " + by + " " + what, m.appeals(p, by, what), k.appeals(p, by, what));
        int who = random.nextInt(3) == 0 ? p : k.least(0);
        int asked = random.nextInt(2) == 0 ? some(1) : 10 + person();
        due("shown " + who + " " + asked, m.shown(who, asked), k.shown(who, asked));
    }

    private void judged() {
        int p = person();
        int q = person();
        int by = some(4);
        int what = some(2);
        due("inform " + p + " " + by, m.inform(p, by), k.inform(p, by));
        due("trial " + p + " " + what, m.trial(p, what), k.trial(p, what));
        due("brief " + p, m.brief(p), k.brief(p));
        due("right " + p, m.right(p), k.right(p));
        due("justice " + by, m.justice(by), k.justice(by));
        due("bestLaw", m.bestLaw(), k.bestLaw());
        int part = some(3);
        if (k.count(1) * k.count(2) <= 20 || random.nextInt(20) == 0) {
            due("parties " + p + " " + q + " " + by + " " + part, m.parties(p, q, by, part), k.parties(p, q, by, part));
        }
    }

    private void rest() {
        int p = person();
        int f = fact();
        int row = some(4);
        int i = some(2);
        int n = some(61);
        int by = some(4);
        int rows = 1 + some(4);
        due("news " + p + " " + f, m.news(p, f), k.news(p, f));
        due("latest " + f, m.latest(f), k.latest(f));
        due("leastIn " + by + " " + n, m.leastIn(by, n), k.leastIn(by, n));
        due("calm", m.calm(), k.calm());
        if (random.nextInt(2) == 0) {
            fill(row, true);
        }
        due("fitting " + row, m.fitting(row), k.fitting(row));
        due("sure " + row, m.sure(row), k.sure(row));
        due("questions " + p + " " + rows, m.questions(p, rows), k.questions(p, rows));
        switch (random.nextInt(6)) {
            case 0:
                due("copy " + row, m.copy(row), k.copy(row));
                break;
            case 1:
                due("image " + i, m.image(i), k.image(i));
                break;
            case 2:
                due("restore " + i, m.restore(i), k.restore(i));
                break;
            default:
                long v = number();
                due("write " + row + " " + i + " " + v, m.write(row, i, v), k.write(row, i, v));
                break;
        }
    }
}
