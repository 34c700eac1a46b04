import java.util.Arrays;

/**
 * Judged by who knows least of it: worlds that may be, facts that hold in some
 * of them, people who were told some facts, and what follows for each of them.
 * Sets (of worlds, facts, people) are ints, number n being bit n.
 */
public final class KnowsLeast {
    public static final int NONE = -1;

    private static final int NO_SUCH = -2;
    private static final int CANNOT_BE = -3;
    private static final int TOO_MANY = -4;
    private static final int NOT_NOW = -5;
    private static final int MISSING = -6;
    private static final int NO_PLACE = -7;
    private static final int TEXT_FAULT = -30;
    private static final int NO_CHOICE = -100;
    private static final int IS_COMMON = 100;

    private static final int MOST_BYTES = 900;
    private static final int MOST_WORLDS = 16;
    private static final int MOST_FACTS = 8;
    private static final int MOST_PEOPLE = 6;
    private static final int FACT_SETS = 1 << MOST_FACTS;
    private static final int MEASURES = 4;
    private static final int MOST_UNDONE = 12;
    private static final int MOST_DAYS = 60;
    private static final int MOST_TIMES = 60;
    private static final int MOST_STEPS = 20;
    private static final int MOST_ASKED = 8;
    private static final int MOST_QUESTIONS = 4;
    private static final int ROWS = 4;
    private static final int SORTS = 4;
    private static final int ROW_PLACES = 40;
    private static final int IMAGES = 2;

    private final byte[] tape = new byte[MOST_BYTES];
    private final Reader reader = new Reader();
    private final Land land = new Land();
    private final State state = new State();
    private final State spare = new State();
    private final Past past = new Past();
    private final Showing showing = new Showing();
    private final Parties sides = new Parties();
    private final Trial court = new Trial();
    private final Row[] rows = new Row[ROWS];
    private final Image[] images = new Image[IMAGES];
    private int taped;

    public KnowsLeast() {
        for (int i = 0; i < ROWS; i++) {
            rows[i] = new Row();
        }
        for (int i = 0; i < IMAGES; i++) {
            images[i] = new Image();
        }
    }

    // ---- the land

    public int feed(int a, int b, int c, int d, int e) {
        if (taped + 20 > MOST_BYTES) {
            return NOT_NOW;
        }
        putOnTape(a);
        putOnTape(b);
        putOnTape(c);
        putOnTape(d);
        putOnTape(e);
        return taped;
    }

    private void putOnTape(int four) {
        for (int shift = 24; shift >= 0 && taped < MOST_BYTES; shift -= 8) {
            tape[taped] = (byte) (four >> shift);
            taped++;
        }
    }

    public int land(int n) {
        if (n < 0 || n > taped) {
            return CANNOT_BE;
        }
        taped = 0;
        if (reader.read(tape, n) != 0) {
            return TEXT_FAULT - reader.fault;
        }
        land.become(reader.land);
        state.become(reader.state);
        past.forget();
        return land.lines;
    }

    public int fault(int what) {
        if (what == 0) {
            return reader.fault;
        }
        return what == 1 ? reader.place : NONE;
    }

    public int world(int w, int what) {
        if (!isWorld(w) || what < 0 || what > 5) {
            return NO_SUCH;
        }
        if (what < 3) {
            return land.numbers[3 * w + what];
        }
        if (what == 3) {
            return land.weights[w];
        }
        return what == 4 ? land.guilty >> w & 1 : land.factsIn(w);
    }

    public int fact(int f) {
        return isFact(f) ? land.holding[f] : NO_SUCH;
    }

    public int person(int p, int what) {
        if (!isPerson(p)) {
            return NO_SUCH;
        }
        int possible = possibleTo(p);
        switch (what) {
            case 0:
                return state.told[p];
            case 1:
                return possible;
            case 2:
                return land.knownBy(possible);
            case 3:
                return land.isGuiltKnown(possible) ? 1 : 0;
            case 4:
                return land.roads[p];
            default:
                return NO_SUCH;
        }
    }

    public int hints(int f) {
        return isFact(f) ? land.hinted[f] : NO_SUCH;
    }

    public int knows(int p, int f) {
        if (!isPerson(p) || !isFact(f)) {
            return NO_SUCH;
        }
        int possible = possibleTo(p);
        if (!land.isKnown(f, possible)) {
            return NONE;
        }
        return (possible & land.holding[f]) == possible ? 1 : 0;
    }

    public int cell(int p, int w) {
        if (!isPerson(p) || !isWorld(w)) {
            return NO_SUCH;
        }
        return land.possible(state.told[p], w);
    }

    private boolean isWorld(int w) {
        return w >= 0 && w < land.worlds;
    }

    private boolean isFact(int f) {
        return f >= 0 && f < land.facts;
    }

    private boolean isPerson(int p) {
        return p >= 0 && p < land.people;
    }

    private static boolean isMeasure(int m) {
        return m >= 0 && m < MEASURES;
    }

    private static boolean isRow(int row) {
        return row >= 0 && row < ROWS;
    }

    private int possibleTo(int p) {
        return land.possible(state.told[p], state.truth);
    }

    // ---- deeds

    public int tell(int p, int f) {
        if (!isPerson(p) || !isFact(f)) {
            return NO_SUCH;
        }
        past.keep(state);
        state.told[p] |= 1 << f;
        return Integer.bitCount(possibleTo(p));
    }

    public int ask(int p, int f) {
        if (!isPerson(p) || !isFact(f)) {
            return NO_SUCH;
        }
        past.keep(state);
        return state.isAsked(land, p, f) ? 1 : 0;
    }

    public int days(int n) {
        if (n < 1 || n > MOST_DAYS) {
            return CANNOT_BE;
        }
        past.keep(state);
        spare.become(state);
        state.passDays(land, n);
        int more = 0;
        for (int p = 0; p < land.people; p++) {
            if (state.told[p] != spare.told[p]) {
                more++;
            }
        }
        return more;
    }

    public int isTrue(int w) {
        if (!isWorld(w)) {
            return NO_SUCH;
        }
        past.keep(state);
        int before = state.truth;
        state.truth = w;
        return before;
    }

    public int undo(int n) {
        if (n < 1 || n > past.size) {
            return CANNOT_BE;
        }
        past.goBack(state, n);
        return past.size;
    }

    public int judge(int row, int what) {
        if (!isRow(row) || what < 0 || what > 3) {
            return NO_SUCH;
        }
        if (rows[row].isMissing()) {
            return MISSING;
        }
        int able = land.deedsAhead(rows[row]);
        if (what == 0) {
            return able < rows[row].length ? able : NONE;
        }
        if (what == 1) {
            return able;
        }
        spare.become(state);
        int knew = spare.doDeeds(land, rows[row], able);
        return what == 2 ? land.leastBy(0, spare.told, spare.truth) : knew;
    }

    public int perform(int row) {
        if (!isRow(row)) {
            return NO_SUCH;
        }
        if (rows[row].isMissing()) {
            return MISSING;
        }
        int able = land.deedsAhead(rows[row]);
        // a call that does nothing is none that can be undone
        if (able > 0) {
            past.keep(state);
            state.doDeeds(land, rows[row], able);
        }
        return able;
    }

    public int year(int seed, int times) {
        if (times < 1 || times > MOST_TIMES) {
            return CANNOT_BE;
        }
        if (land.worlds == 0 || land.people == 0 || land.facts == 0) {
            return NOT_NOW;
        }
        past.keep(state);
        state.passYear(land, seed, times);
        return land.leastBy(0, state.told, state.truth);
    }

    // ---- what is known

    public int everyone(int f) {
        if (!isFact(f)) {
            return NO_SUCH;
        }
        if (land.worlds == 0) {
            return NOT_NOW;
        }
        return land.isKnown(f, reached(1)) ? 1 : 0;
    }

    public int depth(int f) {
        if (!isFact(f)) {
            return NO_SUCH;
        }
        if (land.worlds == 0) {
            return NOT_NOW;
        }
        int at = 1 << state.truth;
        for (int n = 0; n < MOST_WORLDS; n++) {
            int next = land.stepFrom(at, state.told);
            if (next == at) {
                return IS_COMMON;
            }
            if (!land.isKnown(f, next)) {
                return n;
            }
            at = next;
        }
        return IS_COMMON;
    }

    public int common() {
        return land.worlds == 0 ? NOT_NOW : land.knownBy(reached(MOST_WORLDS));
    }

    public int reach(int n) {
        if (n < 1 || n > MOST_STEPS) {
            return CANNOT_BE;
        }
        return land.worlds == 0 ? NOT_NOW : reached(n);
    }

    private int reached(int steps) {
        int at = 1 << state.truth;
        for (int n = 0; n < steps; n++) {
            int next = land.stepFrom(at, state.told);
            if (next == at) {
                return at;
            }
            at = next;
        }
        return at;
    }

    public int together(int set) {
        if (set >> land.people != 0) {
            return CANNOT_BE;
        }
        return land.worlds == 0 ? NOT_NOW : possibleTogether(set);
    }

    private int possibleTogether(int set) {
        int told = 0;
        for (int p = 0; p < land.people; p++) {
            if ((set >> p & 1) == 1) {
                told |= state.told[p];
            }
        }
        return land.possible(told, state.truth);
    }

    public int witnesses() {
        if (land.worlds == 0) {
            return NOT_NOW;
        }
        int best = NONE;
        for (int set = 0; set < 1 << land.people; set++) {
            if (isFewer(set, best) && land.isGuiltKnown(possibleTogether(set))) {
                best = set;
            }
        }
        return best;
    }

    public int parting(int p, int q) {
        if (!isPerson(p) || !isPerson(q)) {
            return NO_SUCH;
        }
        return land.knownBy(possibleTo(p)) ^ land.knownBy(possibleTo(q));
    }

    /** Whether a set has fewer than another one, or as many and is the least; any is ahead of NONE. */
    private static boolean isFewer(int set, int than) {
        if (than == NONE) {
            return true;
        }
        int more = Integer.bitCount(set) - Integer.bitCount(than);
        return more < 0 || more == 0 && set < than;
    }

    // ---- who knows least

    public int measure(int p, int m) {
        if (!isPerson(p) || !isMeasure(m)) {
            return NO_SUCH;
        }
        return amount(p, m);
    }

    private int amount(int p, int m) {
        return land.amountOf(m, possibleTo(p));
    }

    public int least(int m) {
        return isMeasure(m) ? land.leastBy(m, state.told, state.truth) : NO_SUCH;
    }

    public int seats(int p, int m) {
        if (!isPerson(p) || !isMeasure(m)) {
            return NO_SUCH;
        }
        int seats = 0;
        for (int w = 0; w < land.worlds; w++) {
            if (land.leastBy(m, state.told, w) == p) {
                seats++;
            }
        }
        return seats;
    }

    public int differ(int m, int n) {
        if (!isMeasure(m) || !isMeasure(n)) {
            return NO_SUCH;
        }
        int pairs = 0;
        for (int p = 0; p < land.people; p++) {
            for (int q = p + 1; q < land.people; q++) {
                int byOne = Integer.compare(amount(p, m), amount(q, m));
                int byOther = Integer.compare(amount(p, n), amount(q, n));
                if (byOne * byOther < 0) {
                    pairs++;
                }
            }
        }
        return pairs;
    }

    public int shown(int p, int what) {
        if (!isPerson(p) || what != 0 && !isPerson(what - 10)) {
            return NO_SUCH;
        }
        if (land.leastBy(0, state.told, state.truth) != p) {
            return NONE;
        }
        showing.find(land, state, p);
        if (showing.total == NONE) {
            return NONE;
        }
        return what == 0 ? showing.total : showing.asked[what - 10];
    }

    public int appeals(int p, int m, int what) {
        if (!isPerson(p) || !isMeasure(m) || what < 0 || what > 1) {
            return NO_SUCH;
        }
        int judge = p;
        int times = 0;
        for (; times < MOST_PEOPLE; times++) {
            int next = nextAbove(judge, m);
            if (next == NONE) {
                break;
            }
            judge = next;
        }
        return what == 0 ? times : judge;
    }

    private int nextAbove(int p, int m) {
        int has = amount(p, m);
        int best = NONE;
        int bestHas = 0;
        for (int q = 0; q < land.people; q++) {
            int other = amount(q, m);
            if (other > has && (best == NONE || other < bestHas)) {
                best = q;
                bestHas = other;
            }
        }
        return best;
    }

    // ---- parties, trials

    public int parties(int want, int other, int m, int what) {
        if (!isPerson(want) || !isPerson(other) || !isMeasure(m) || what < 0 || what > 2) {
            return NO_SUCH;
        }
        if (land.worlds == 0) {
            return NOT_NOW;
        }
        sides.judgeAll(land, state, m);
        if (!sides.findRest(want, other)) {
            return NONE;
        }
        if (what == 2) {
            return sides.judge;
        }
        return sides.choice(what == 0 ? sides.first : sides.second);
    }

    public int inform(int want, int m) {
        if (!isPerson(want) || !isMeasure(m)) {
            return NO_SUCH;
        }
        if (land.worlds == 0) {
            return NOT_NOW;
        }
        if (land.leastBy(m, state.told, state.truth) == want) {
            return NO_CHOICE;
        }
        spare.become(state);
        for (int p = 0; p < land.people; p++) {
            for (int f = 0; f < land.facts; f++) {
                spare.told[p] |= 1 << f;
                if (land.leastBy(m, spare.told, spare.truth) == want) {
                    return 10 * p + f;
                }
                spare.told[p] = state.told[p];
            }
        }
        return NONE;
    }

    public int trial(int p, int what) {
        if (!isPerson(p) || what < 0 || what > 1) {
            return NO_SUCH;
        }
        if (land.worlds == 0) {
            return NOT_NOW;
        }
        int possible = possibleTo(p);
        int fewest = court.fewestFacts(land, possible);
        if (fewest == NONE || what == 0) {
            return fewest;
        }
        return fewest == 0 ? NONE : court.firstFact(land, possible, fewest);
    }

    public int brief(int p) {
        if (!isPerson(p)) {
            return NO_SUCH;
        }
        if (land.worlds == 0) {
            return NOT_NOW;
        }
        int best = NONE;
        for (int set = 0; set < 1 << land.facts; set++) {
            if (isFewer(set, best) && land.isGuiltKnown(land.possible(state.told[p] | set, state.truth))) {
                best = set;
            }
        }
        return best;
    }

    public int right(int p) {
        if (!isPerson(p)) {
            return NO_SUCH;
        }
        int weight = 0;
        for (int w = 0; w < land.worlds; w++) {
            if (land.isRight(state.told[p], w)) {
                weight += land.weights[w];
            }
        }
        return weight;
    }

    public int justice(int m) {
        if (!isMeasure(m)) {
            return NO_SUCH;
        }
        return land.people == 0 ? NOT_NOW : justiceBy(m);
    }

    private int justiceBy(int m) {
        int weight = 0;
        for (int w = 0; w < land.worlds; w++) {
            int judge = land.leastBy(m, state.told, w);
            if (isPerson(judge) && land.isRight(state.told[judge], w)) {
                weight += land.weights[w];
            }
        }
        return weight;
    }

    public int bestLaw() {
        if (land.people == 0) {
            return NOT_NOW;
        }
        int best = 0;
        int most = justiceBy(0);
        for (int m = 1; m < MEASURES; m++) {
            int weight = justiceBy(m);
            if (weight > most) {
                best = m;
                most = weight;
            }
        }
        return best;
    }

    // ---- news

    public int news(int p, int f) {
        return isPerson(p) && isFact(f) ? daysTill(p, f) : NO_SUCH;
    }

    private int daysTill(int p, int f) {
        spare.become(state);
        // no way between two people is longer than there are people
        for (int day = 0; day < MOST_PEOPLE; day++) {
            if ((spare.told[p] >> f & 1) == 1) {
                return day;
            }
            spare.passDays(land, 1);
        }
        return NONE;
    }

    public int latest(int f) {
        if (!isFact(f)) {
            return NO_SUCH;
        }
        int last = NONE;
        int most = NONE;
        for (int p = 0; p < land.people; p++) {
            int days = daysTill(p, f);
            if (days == NONE) {
                return p;
            }
            if (days > most) {
                last = p;
                most = days;
            }
        }
        return last;
    }

    public int leastIn(int m, int n) {
        if (!isMeasure(m)) {
            return NO_SUCH;
        }
        if (n < 0 || n > MOST_DAYS) {
            return CANNOT_BE;
        }
        spare.become(state);
        spare.passDays(land, n);
        return land.leastBy(m, spare.told, spare.truth);
    }

    public int calm() {
        spare.become(state);
        return spare.passDays(land, MOST_DAYS);
    }

    // ---- who asked

    public int fitting(int row) {
        int refused = refusedAsked(row);
        if (refused != 0) {
            return refused;
        }
        int fit = 0;
        for (int told = 0; told < 1 << land.facts; told++) {
            if (isFitting(told, rows[row])) {
                fit++;
            }
        }
        return fit;
    }

    public int sure(int row) {
        int refused = refusedAsked(row);
        if (refused != 0) {
            return refused;
        }
        int inSome = 0;
        boolean any = false;
        for (int told = 0; told < 1 << land.facts; told++) {
            if (isFitting(told, rows[row])) {
                inSome |= told;
                any = true;
            }
        }
        return any ? land.allFacts() & ~inSome : NONE;
    }

    /** The code by which a row can't be one of facts that were asked, or 0. */
    private int refusedAsked(int row) {
        if (!isRow(row)) {
            return NO_SUCH;
        }
        if (rows[row].isMissing()) {
            return MISSING;
        }
        int length = rows[row].length;
        if (length < 1 || length > MOST_ASKED) {
            return TOO_MANY;
        }
        for (int i = 0; i < length; i++) {
            long number = rows[row].numbers[i];
            if (number < 0 || number >= land.facts) {
                return CANNOT_BE;
            }
        }
        return land.worlds == 0 ? NOT_NOW : 0;
    }

    private boolean isFitting(int told, Row asked) {
        int possible = land.possible(told, state.truth);
        for (int i = 0; i < asked.length; i++) {
            int f = (int) asked.numbers[i];
            if (!isFact(f) || land.isKnown(f, possible)) {
                return false;
            }
            possible &= land.sideOf(f, state.truth);
        }
        return true;
    }

    public int questions(int p, int n) {
        if (!isPerson(p)) {
            return NO_SUCH;
        }
        if (n < 1 || n > MOST_QUESTIONS) {
            return CANNOT_BE;
        }
        return land.worlds == 0 ? NOT_NOW : rowsToAsk(possibleTo(p), n);
    }

    private int rowsToAsk(int possible, int n) {
        int open = land.allFacts() & ~land.knownBy(possible);
        if (n <= 1) {
            return Integer.bitCount(open);
        }
        int ways = 0;
        for (int f = 0; f < land.facts; f++) {
            if ((open >> f & 1) == 1) {
                ways += rowsToAsk(possible & land.sideOf(f, state.truth), n - 1);
            }
        }
        return ways;
    }

    // ---- rows of numbers, images

    public int numbers(int row, int sort, int n) {
        if (!isRow(row) || sort < 0 || sort >= SORTS) {
            return NO_SUCH;
        }
        if (n < 0 || n > ROW_PLACES) {
            return CANNOT_BE;
        }
        rows[row].renew(sort, n);
        return 0;
    }

    public long write(int row, int i, long v) {
        if (!isRow(row)) {
            return NO_SUCH;
        }
        if (rows[row].isMissing()) {
            return MISSING;
        }
        if (i < 0 || i >= rows[row].length) {
            return NO_PLACE;
        }
        rows[row].put(i, v);
        return rows[row].numbers[i];
    }

    public int copy(int row) {
        if (!isRow(row)) {
            return NO_SUCH;
        }
        if (rows[row].isMissing()) {
            return MISSING;
        }
        int places = Math.min(land.people, rows[row].length);
        for (int p = 0; p < places; p++) {
            rows[row].put(p, state.told[p]);
        }
        return places;
    }

    public int image(int i) {
        if (i < 0 || i >= IMAGES) {
            return NO_SUCH;
        }
        images[i].land.become(land);
        images[i].state.become(state);
        images[i].made = true;
        return 0;
    }

    public int restore(int i) {
        if (i < 0 || i >= IMAGES) {
            return NO_SUCH;
        }
        if (!images[i].made) {
            return NOT_NOW;
        }
        land.become(images[i].land);
        state.become(images[i].state);
        past.forget();
        return 0;
    }

    public int count(int what) {
        switch (what) {
            case 0:
                return land.worlds;
            case 1:
                return land.facts;
            case 2:
                return land.people;
            case 3:
                return land.worlds == 0 ? NONE : state.truth;
            case 4:
                return past.size;
            case 5:
                return land.countRoads();
            case 6:
                return Integer.bitCount(land.guilty);
            case 7:
                return land.weightOf(land.allWorlds());
            case 8:
                return taped;
            case 9:
                return land.lines;
            default:
                return NONE;
        }
    }

    /** What a text tells, but for what people were told and what is true. */
    static final class Land {
        final int[] numbers = new int[3 * MOST_WORLDS];
        final int[] weights = new int[MOST_WORLDS];
        final int[] holding = new int[MOST_FACTS];
        final int[] hinted = new int[MOST_FACTS];
        final int[] roads = new int[MOST_PEOPLE];
        int guilty;
        int worlds;
        int facts;
        int people;
        int lines;

        void clear() {
            Arrays.fill(hinted, 0);
            Arrays.fill(roads, 0);
            guilty = 0;
            worlds = 0;
            facts = 0;
            people = 0;
            lines = 0;
        }

        void become(Land other) {
            System.arraycopy(other.numbers, 0, numbers, 0, 3 * MOST_WORLDS);
            System.arraycopy(other.weights, 0, weights, 0, MOST_WORLDS);
            System.arraycopy(other.holding, 0, holding, 0, MOST_FACTS);
            System.arraycopy(other.hinted, 0, hinted, 0, MOST_FACTS);
            System.arraycopy(other.roads, 0, roads, 0, MOST_PEOPLE);
            guilty = other.guilty;
            worlds = other.worlds;
            facts = other.facts;
            people = other.people;
            lines = other.lines;
        }

        int allWorlds() {
            return (1 << worlds) - 1;
        }

        int allFacts() {
            return (1 << facts) - 1;
        }

        int factsIn(int w) {
            int set = 0;
            for (int f = 0; f < facts; f++) {
                set |= (holding[f] >> w & 1) << f;
            }
            return set;
        }

        int countRoads() {
            int ends = 0;
            for (int p = 0; p < people; p++) {
                ends += Integer.bitCount(roads[p]);
            }
            return ends / 2;
        }

        /** Worlds in which a fact holds just as in one of them. */
        int sideOf(int f, int w) {
            return (holding[f] >> w & 1) == 1 ? holding[f] : ~holding[f];
        }

        int possible(int told, int w) {
            int set = allWorlds();
            for (int f = 0; f < facts; f++) {
                if ((told >> f & 1) == 1) {
                    set &= sideOf(f, w);
                }
            }
            return set;
        }

        boolean isKnown(int f, int possible) {
            int in = possible & holding[f];
            return in == 0 || in == possible;
        }

        int knownBy(int possible) {
            int set = 0;
            for (int f = 0; f < facts; f++) {
                if (isKnown(f, possible)) {
                    set |= 1 << f;
                }
            }
            return set;
        }

        boolean isGuiltKnown(int possible) {
            int in = possible & guilty;
            return in == 0 || in == possible;
        }

        int weightOf(int set) {
            int weight = 0;
            for (int w = 0; w < worlds; w++) {
                if ((set >> w & 1) == 1) {
                    weight += weights[w];
                }
            }
            return weight;
        }

        int amountOf(int m, int possible) {
            switch (m) {
                case 0:
                    return Integer.bitCount(possible);
                case 1:
                    return Math.min(Integer.bitCount(possible & guilty), Integer.bitCount(possible & ~guilty));
                case 2:
                    return weightOf(possible);
                default:
                    return facts - Integer.bitCount(knownBy(possible));
            }
        }

        /** Who is the least by a measure, with what all were told, in a world; NONE without people. */
        int leastBy(int m, int[] told, int w) {
            int who = NONE;
            int most = NONE;
            for (int p = 0; p < people; p++) {
                int amount = amountOf(m, possible(told[p], w));
                if (amount > most) {
                    who = p;
                    most = amount;
                }
            }
            return who;
        }

        boolean isRight(int told, int w) {
            int set = possible(told, w);
            int alike = (guilty >> w & 1) == 1 ? set & guilty : set & ~guilty;
            return weightOf(alike) > weightOf(set & ~alike);
        }

        /** Worlds to which a step leads from one of a set; each stays within its own reach. */
        int stepFrom(int set, int[] told) {
            int to = set;
            for (int p = 0; p < people; p++) {
                for (int w = 0; w < worlds; w++) {
                    if ((set >> w & 1) == 1) {
                        to |= possible(told[p], w);
                    }
                }
            }
            return to;
        }

        boolean isDeed(long number) {
            if (number == NONE) {
                return true;
            }
            return number >= 0 && number < 200 && number % 100 / 10 < people && number % 10 < facts;
        }

        /** How many deeds in a row can be, from the first on. */
        int deedsAhead(Row row) {
            int n = 0;
            while (n < row.length && isDeed(row.numbers[n])) {
                n++;
            }
            return n;
        }
    }

    /** What all were told, and what is true. */
    static final class State {
        final int[] told = new int[MOST_PEOPLE];
        final int[] morning = new int[MOST_PEOPLE];
        int truth;
        int drawn;

        void clear() {
            Arrays.fill(told, 0);
            truth = 0;
        }

        void become(State other) {
            System.arraycopy(other.told, 0, told, 0, MOST_PEOPLE);
            truth = other.truth;
        }

        /** Whether it knew the fact; what is hinted comes behind the answer. */
        boolean isAsked(Land land, int p, int f) {
            boolean knew = land.isKnown(f, land.possible(told[p], truth));
            told[p] |= land.hinted[f];
            return knew;
        }

        private boolean passDay(Land land) {
            System.arraycopy(told, 0, morning, 0, MOST_PEOPLE);
            boolean more = false;
            for (int p = 0; p < land.people; p++) {
                for (int q = 0; q < land.people; q++) {
                    if ((land.roads[p] >> q & 1) == 1) {
                        told[p] |= morning[q];
                    }
                }
                more |= told[p] != morning[p];
            }
            return more;
        }

        /** On how many of n days somebody is told more (behind a day without news there is none). */
        int passDays(Land land, int n) {
            for (int day = 0; day < n; day++) {
                if (!passDay(land)) {
                    return day;
                }
            }
            return n;
        }

        /** The first n deeds of a row: how often someone who was asked knew it. */
        int doDeeds(Land land, Row row, int n) {
            int knew = 0;
            for (int i = 0; i < n && i < row.length; i++) {
                if (land.isDeed(row.numbers[i]) && isDone(land, (int) row.numbers[i])) {
                    knew++;
                }
            }
            return knew;
        }

        private boolean isDone(Land land, int deed) {
            if (deed == NONE) {
                passDay(land);
                return false;
            }
            int p = deed % 100 / 10;
            int f = deed % 10;
            if (deed >= 100) {
                return isAsked(land, p, f);
            }
            told[p] |= 1 << f;
            return false;
        }

        private int draw(int below) {
            drawn = 1103515245 * drawn + 12345;
            return below > 0 ? (drawn >>> 16) % below : 0;
        }

        void passYear(Land land, int seed, int times) {
            drawn = seed;
            for (int i = 0; i < times; i++) {
                int what = draw(4);
                if (what == 0) {
                    passDay(land);
                } else if (what == 1) {
                    truth = draw(land.worlds);
                } else {
                    int p = draw(land.people);
                    int f = draw(land.facts);
                    if (what == 2) {
                        isAsked(land, p, f);
                    } else {
                        told[p] |= 1 << f;
                    }
                }
            }
        }
    }

    /** A land and its state, to go on from. */
    static final class Image {
        final Land land = new Land();
        final State state = new State();
        boolean made;
    }

    /** The states ahead of the latest calls that can be undone, the eldest first. */
    static final class Past {
        static final int SIZE = MOST_PEOPLE + 1;
        final int[] kept = new int[MOST_UNDONE * SIZE];
        int size;

        void forget() {
            size = 0;
        }

        void keep(State state) {
            if (size >= MOST_UNDONE) {
                System.arraycopy(kept, SIZE, kept, 0, (MOST_UNDONE - 1) * SIZE);
                size = MOST_UNDONE - 1;
            }
            System.arraycopy(state.told, 0, kept, size * SIZE, MOST_PEOPLE);
            kept[size * SIZE + MOST_PEOPLE] = state.truth;
            size++;
        }

        void goBack(State state, int n) {
            if (n < 1 || n > size) {
                return;
            }
            size -= n;
            System.arraycopy(kept, size * SIZE, state.told, 0, MOST_PEOPLE);
            state.truth = kept[size * SIZE + MOST_PEOPLE];
        }
    }

    /** A row of numbers, or a missing one. */
    static final class Row {
        final long[] numbers = new long[ROW_PLACES];
        int length = NONE;
        int sort;

        boolean isMissing() {
            return length < 0;
        }

        void renew(int newSort, int n) {
            Arrays.fill(numbers, 0L);
            sort = newSort;
            length = n;
        }

        void put(int i, long v) {
            if (i < 0 || i >= length) {
                return;
            }
            switch (sort) {
                case 0:
                    numbers[i] = (byte) v;
                    break;
                case 1:
                    numbers[i] = (short) v;
                    break;
                case 2:
                    numbers[i] = (int) v;
                    break;
                default:
                    numbers[i] = v;
                    break;
            }
        }
    }

    /**
     * A text cut into tokens; the last one is its end. A sign's kind is its own
     * number (all are above 39), so that the grammar can name it as it looks.
     */
    static final class Tokens {
        static final int END = 0;
        static final int BAD = 1;
        static final int NUMBER = 2;
        static final int STRANGE = 3;
        static final int WORLD = 101;
        static final int WEIGHT = 102;
        static final int GUILTY = 103;
        static final int FACT = 104;
        static final int PERSON = 105;
        static final int TOLD = 106;
        static final int ROAD = 107;
        static final int HINT = 108;
        static final int TRUE = 109;
        static final int NOT = 110;
        static final int AND = 111;
        static final int OR = 112;
        static final int A = 113;
        static final int B = 114;
        static final int C = 115;

        final int[] kinds = new int[MOST_BYTES + 1];
        final int[] starts = new int[MOST_BYTES + 1];
        final int[] values = new int[MOST_BYTES + 1];
        int last;

        void cut(byte[] text, int length) {
            last = 0;
            int at = 0;
            for (int i = 0; i < length && at < length; i++) {
                if (text[at] == ' ' || text[at] == '\n') {
                    at++;
                } else {
                    int end = endOf(text, at, length);
                    starts[last] = at;
                    kinds[last] = kindOf(text, at, end);
                    values[last] = kinds[last] == NUMBER ? valueOf(text, at, end) : 0;
                    last++;
                    at = end;
                }
            }
            starts[last] = length;
            kinds[last] = END;
            values[last] = 0;
        }

        private static boolean isLetter(int c) {
            return c >= 'a' && c <= 'z';
        }

        private static boolean isDigit(int c) {
            return c >= '0' && c <= '9';
        }

        private static int endOf(byte[] text, int start, int length) {
            int end = start + 1;
            if (isLetter(text[start])) {
                while (end < length && isLetter(text[end])) {
                    end++;
                }
            } else if (isDigit(text[start])) {
                while (end < length && isDigit(text[end])) {
                    end++;
                }
            }
            return end;
        }

        private static int valueOf(byte[] text, int start, int end) {
            int value = 0;
            for (int i = start; i < end; i++) {
                value = 10 * value + text[i] - '0';
            }
            return value;
        }

        private static int kindOf(byte[] text, int start, int end) {
            int c = text[start];
            if (isDigit(c)) {
                return end - start <= 3 ? NUMBER : BAD;
            }
            if (isLetter(c)) {
                return wordKind(text, start, end);
            }
            switch (c) {
                case ';':
                case ':':
                case '+':
                case '-':
                case '*':
                case '(':
                case ')':
                case '[':
                case ']':
                case '=':
                case '<':
                case '>':
                    return c;
                default:
                    return BAD;
            }
        }

        private static int wordKind(byte[] text, int start, int end) {
            switch (text[start]) {
                case 'a':
                    return end - start == 1 ? A : spelled(text, start, end, "and", AND);
                case 'b':
                    return spelled(text, start, end, "b", B);
                case 'c':
                    return spelled(text, start, end, "c", C);
                case 'f':
                    return spelled(text, start, end, "fact", FACT);
                case 'g':
                    return spelled(text, start, end, "guilty", GUILTY);
                case 'h':
                    return spelled(text, start, end, "hint", HINT);
                case 'n':
                    return spelled(text, start, end, "not", NOT);
                case 'o':
                    return spelled(text, start, end, "or", OR);
                case 'p':
                    return spelled(text, start, end, "person", PERSON);
                case 'r':
                    return spelled(text, start, end, "road", ROAD);
                case 't':
                    return Math.max(spelled(text, start, end, "told", TOLD), spelled(text, start, end, "true", TRUE));
                case 'w':
                    return Math.max(spelled(text, start, end, "world", WORLD),
                            spelled(text, start, end, "weight", WEIGHT));
                default:
                    return STRANGE;
            }
        }

        private static int spelled(byte[] text, int start, int end, String word, int kind) {
            if (end - start != word.length()) {
                return STRANGE;
            }
            for (int i = start; i < end; i++) {
                if (text[i] != word.charAt(i - start)) {
                    return STRANGE;
                }
            }
            return kind;
        }
    }

    /** Reads a text into a land and a state of its own, up to its first fault. */
    static final class Reader {
        static final int CANNOT_STAND = 2;
        static final int OUT_OF_BOUNDS = 3;
        static final int ONE_TOO_MANY = 4;
        static final int MOST_WITHIN = 6;

        final Tokens tokens = new Tokens();
        final Formulas formulas = new Formulas();
        final Land land = new Land();
        final State state = new State();
        int fault;
        int place = NONE;
        private int at;

        int read(byte[] text, int length) {
            land.clear();
            state.clear();
            formulas.clear();
            tokens.cut(text, length);
            fault = 0;
            place = NONE;
            at = 0;
            for (int i = 0; i <= length && kind() != Tokens.END; i++) {
                readLine();
            }
            // worlds may be told behind a fact, so facts are looked at last
            if (fault == 0) {
                formulas.settle(land);
            }
            return fault;
        }

        private int kind() {
            return tokens.kinds[at];
        }

        private void goOn() {
            if (at < tokens.last) {
                at++;
            }
        }

        /** A fault at this token; from then on the end stands there, so that all reading stops. */
        private void refuse(int why) {
            if (fault == 0) {
                fault = tokens.kinds[at] == Tokens.BAD ? 1 : why;
                place = tokens.starts[at];
            }
            at = tokens.last;
        }

        private void take(int wanted) {
            if (kind() == wanted) {
                goOn();
            } else {
                refuse(CANNOT_STAND);
            }
        }

        /** A number from least to most; least if it is refused. */
        private int takeNumber(int least, int most) {
            if (kind() != Tokens.NUMBER) {
                refuse(CANNOT_STAND);
                return least;
            }
            int value = tokens.values[at];
            if (value < least || value > most) {
                refuse(OUT_OF_BOUNDS);
                return least;
            }
            goOn();
            return value;
        }

        private void readLine() {
            switch (kind()) {
                case Tokens.WORLD:
                    readWorld();
                    break;
                case Tokens.FACT:
                    readFact();
                    break;
                case Tokens.PERSON:
                    readPerson();
                    break;
                case Tokens.ROAD:
                    readRoad();
                    break;
                case Tokens.HINT:
                    readHint();
                    break;
                case Tokens.TRUE:
                    goOn();
                    state.truth = takeNumber(0, land.worlds - 1);
                    break;
                default:
                    refuse(CANNOT_STAND);
                    break;
            }
            take(';');
            land.lines++;
        }

        private void readWorld() {
            int w = land.worlds;
            if (w >= MOST_WORLDS) {
                refuse(ONE_TOO_MANY);
                return;
            }
            goOn();
            for (int i = 0; i < 3; i++) {
                land.numbers[3 * w + i] = takeNumber(0, 99);
            }
            land.weights[w] = 1;
            if (kind() == Tokens.WEIGHT) {
                goOn();
                land.weights[w] = takeNumber(1, 9);
            }
            if (kind() == Tokens.GUILTY) {
                goOn();
                land.guilty |= 1 << w;
            }
            land.worlds++;
        }

        private void readFact() {
            if (land.facts >= MOST_FACTS) {
                refuse(ONE_TOO_MANY);
                return;
            }
            goOn();
            take(':');
            readTruth(0);
            formulas.end(land.facts);
            land.facts++;
        }

        private void readPerson() {
            int p = land.people;
            if (p >= MOST_PEOPLE) {
                refuse(ONE_TOO_MANY);
                return;
            }
            goOn();
            if (kind() == Tokens.TOLD) {
                goOn();
                state.told[p] = 1 << takeNumber(0, land.facts - 1);
                for (int i = 0; i < MOST_BYTES && kind() == Tokens.NUMBER; i++) {
                    state.told[p] |= 1 << takeNumber(0, land.facts - 1);
                }
            }
            land.people++;
        }

        private void readRoad() {
            goOn();
            int p = takeNumber(0, land.people - 1);
            if (kind() == Tokens.NUMBER && tokens.values[at] == p) {
                refuse(OUT_OF_BOUNDS);
            }
            int q = takeNumber(0, land.people - 1);
            if (fault == 0) {
                land.roads[p] |= 1 << q;
                land.roads[q] |= 1 << p;
            }
        }

        private void readHint() {
            goOn();
            int f = takeNumber(0, land.facts - 1);
            land.hinted[f] |= 1 << takeNumber(0, land.facts - 1);
        }

        private boolean isTooDeep(int within) {
            if (within >= MOST_WITHIN) {
                refuse(ONE_TOO_MANY);
                return true;
            }
            return false;
        }

        private void readTruth(int within) {
            readBoth(within);
            for (int i = 0; i < MOST_BYTES && kind() == Tokens.OR; i++) {
                goOn();
                readBoth(within);
                formulas.add(-Tokens.OR);
            }
        }

        private void readBoth(int within) {
            readUnit(within);
            for (int i = 0; i < MOST_BYTES && kind() == Tokens.AND; i++) {
                goOn();
                readUnit(within);
                formulas.add(-Tokens.AND);
            }
        }

        private void readUnit(int within) {
            int kind = kind();
            if (kind != Tokens.NOT && kind != '[') {
                readSum(within);
                int sign = kind();
                if (sign == '=' || sign == '<' || sign == '>') {
                    goOn();
                    readSum(within);
                    formulas.add(-sign);
                } else {
                    refuse(CANNOT_STAND);
                }
            } else if (!isTooDeep(within)) {
                goOn();
                if (kind == Tokens.NOT) {
                    readUnit(within + 1);
                    formulas.add(-Tokens.NOT);
                } else {
                    readTruth(within + 1);
                    take(']');
                }
            }
        }

        private void readSum(int within) {
            readTerm(within);
            for (int i = 0; i < MOST_BYTES && (kind() == '+' || kind() == '-'); i++) {
                int sign = kind();
                goOn();
                readTerm(within);
                formulas.add(-sign);
            }
        }

        private void readTerm(int within) {
            readAtom(within);
            for (int i = 0; i < MOST_BYTES && kind() == '*'; i++) {
                goOn();
                readAtom(within);
                formulas.add(-'*');
            }
        }

        private void readAtom(int within) {
            switch (kind()) {
                case Tokens.NUMBER:
                    formulas.add(tokens.values[at]);
                    goOn();
                    break;
                case Tokens.A:
                case Tokens.B:
                case Tokens.C:
                case Tokens.WORLD:
                case Tokens.WEIGHT:
                case Tokens.GUILTY:
                    formulas.add(-kind());
                    goOn();
                    break;
                case '(':
                    if (!isTooDeep(within)) {
                        goOn();
                        readSum(within + 1);
                        take(')');
                    }
                    break;
                default:
                    refuse(CANNOT_STAND);
                    break;
            }
        }
    }

    /**
     * The facts' truths, each as a run of codes, operands ahead of what joins
     * them: a number as it is, all else as its token's kind below 0.
     */
    static final class Formulas {
        static final int BOUND = 1000000;
        static final int DEEPEST = 64;
        final int[] codes = new int[MOST_BYTES + 1];
        final int[] ends = new int[MOST_FACTS];
        final int[] stack = new int[DEEPEST];
        int length;

        void clear() {
            length = 0;
        }

        void add(int code) {
            if (length < codes.length) {
                codes[length] = code;
                length++;
            }
        }

        void end(int f) {
            if (f >= 0 && f < MOST_FACTS) {
                ends[f] = length;
            }
        }

        /** Looks in which worlds each fact of a land holds. */
        void settle(Land land) {
            int start = 0;
            for (int f = 0; f < land.facts; f++) {
                land.holding[f] = 0;
                for (int w = 0; w < land.worlds; w++) {
                    if (valueIn(land, w, start, ends[f]) == 1) {
                        land.holding[f] |= 1 << w;
                    }
                }
                start = ends[f];
            }
        }

        private int valueIn(Land land, int w, int start, int end) {
            int top = 0;
            for (int i = start; i < end; i++) {
                int code = codes[i];
                if (code >= 0 || isAtom(-code)) {
                    if (top < DEEPEST) {
                        stack[top] = code >= 0 ? code : atomOf(land, w, -code);
                        top++;
                    }
                } else if (code == -Tokens.NOT) {
                    if (top >= 1) {
                        stack[top - 1] = 1 - stack[top - 1];
                    }
                } else if (top >= 2) {
                    top--;
                    stack[top - 1] = joined(-code, stack[top - 1], stack[top]);
                }
            }
            return stack[0];
        }

        private static boolean isAtom(int kind) {
            return kind >= Tokens.A && kind <= Tokens.C || kind >= Tokens.WORLD && kind <= Tokens.GUILTY;
        }

        private static int atomOf(Land land, int w, int kind) {
            switch (kind) {
                case Tokens.A:
                    return land.numbers[3 * w];
                case Tokens.B:
                    return land.numbers[3 * w + 1];
                case Tokens.C:
                    return land.numbers[3 * w + 2];
                case Tokens.WORLD:
                    return w;
                case Tokens.WEIGHT:
                    return land.weights[w];
                default:
                    return land.guilty >> w & 1;
            }
        }

        private static int joined(int kind, int x, int y) {
            switch (kind) {
                case '+':
                    return kept((long) x + y);
                case '-':
                    return kept((long) x - y);
                case '*':
                    return kept((long) x * y);
                case '=':
                    return x == y ? 1 : 0;
                case '<':
                    return x < y ? 1 : 0;
                case '>':
                    return x > y ? 1 : 0;
                case Tokens.AND:
                    return x & y;
                default:
                    return x | y;
            }
        }

        private static int kept(long value) {
            return (int) Math.max(-BOUND, Math.min(BOUND, value));
        }
    }

    /**
     * The fewest questions that show who is the least by measure 0. What one
     * answers tells of nobody else, so a level is sought that the one surely
     * has and that nobody else can be above; by level each is asked alone.
     */
    static final class Showing {
        static final int LEVELS = MOST_WORLDS + 1;
        static final int NEVER = -1000;
        final int[] holds = new int[FACT_SETS];
        final int[] known = new int[FACT_SETS];
        final int[] extreme = new int[FACT_SETS];
        final int[] best = new int[MOST_PEOPLE * LEVELS];
        final int[] asked = new int[MOST_PEOPLE];
        int total;

        void find(Land land, State state, int who) {
            for (int told = 0; told < 1 << land.facts; told++) {
                int possible = land.possible(told, state.truth);
                holds[told] = Integer.bitCount(possible);
                known[told] = land.knownBy(possible);
            }
            for (int p = 0; p < land.people; p++) {
                // below 0, the least that one may hold is found as the most
                int sign = p == who ? -1 : 1;
                findExtremes(land, known[state.told[p]], sign);
                findBest(land, p, sign);
            }
            total = NONE;
            for (int level = 0; level <= land.worlds; level++) {
                takeIfBetter(land.people, level);
            }
        }

        /** extreme[d]: the most (by sign) of all sets told by which one knows otherwise but facts in d. */
        private void findExtremes(Land land, int knows, int sign) {
            int sets = 1 << land.facts;
            Arrays.fill(extreme, NEVER);
            for (int told = 0; told < sets; told++) {
                int otherwise = known[told] ^ knows;
                extreme[otherwise] = Math.max(extreme[otherwise], sign * holds[told]);
            }
            for (int f = 0; f < land.facts; f++) {
                for (int set = 0; set < sets; set++) {
                    if ((set >> f & 1) == 1) {
                        extreme[set] = Math.max(extreme[set], extreme[set ^ 1 << f]);
                    }
                }
            }
        }

        /** By level the fewest facts to ask one, that it is seen to hold so many, or no more. */
        private void findBest(Land land, int p, int sign) {
            int from = p * LEVELS;
            for (int level = 0; level < LEVELS; level++) {
                best[from + level] = NONE;
            }
            for (int set = 0; set < 1 << land.facts; set++) {
                int level = sign * extreme[land.allFacts() & ~set];
                if (level >= 0 && level < LEVELS && isFewer(set, best[from + level])) {
                    best[from + level] = set;
                }
            }
            for (int i = 1; i < LEVELS; i++) {
                int level = sign > 0 ? i : LEVELS - 1 - i;
                int nearer = best[from + level - sign];
                if (nearer != NONE && isFewer(nearer, best[from + level])) {
                    best[from + level] = nearer;
                }
            }
        }

        private void takeIfBetter(int people, int level) {
            int sum = 0;
            for (int p = 0; p < people; p++) {
                int set = best[p * LEVELS + level];
                if (set == NONE) {
                    return;
                }
                sum += Integer.bitCount(set);
            }
            if (total == NONE || sum < total || sum == total && isAhead(people, level)) {
                total = sum;
                for (int p = 0; p < people; p++) {
                    asked[p] = best[p * LEVELS + level];
                }
            }
        }

        private boolean isAhead(int people, int level) {
            for (int p = 0; p < people; p++) {
                int set = best[p * LEVELS + level];
                if (set != asked[p]) {
                    return set < asked[p];
                }
            }
            return false;
        }
    }

    /** Two parties who may each have one fact told; choice 0 is none, the others go by person, then fact. */
    static final class Parties {
        static final int MOST_CHOICES = 1 + MOST_PEOPLE * MOST_FACTS;
        final int[] amounts = new int[FACT_SETS];
        final int[] judges = new int[MOST_CHOICES * MOST_CHOICES];
        final int[] told = new int[MOST_PEOPLE];
        final boolean[] canFirst = new boolean[MOST_CHOICES];
        int choices;
        int facts;
        int first;
        int second;
        int judge;

        /** Who judges by a measure, for each choice of both. */
        void judgeAll(Land land, State state, int m) {
            facts = land.facts;
            choices = 1 + land.people * land.facts;
            for (int set = 0; set < 1 << land.facts; set++) {
                amounts[set] = land.amountOf(m, land.possible(set, state.truth));
            }
            System.arraycopy(state.told, 0, told, 0, MOST_PEOPLE);
            for (int i = 0; i < choices; i++) {
                int before = choose(i);
                for (int j = i; j < choices; j++) {
                    int between = choose(j);
                    int who = mostOf(land.people);
                    judges[i * choices + j] = who;
                    // it is all one which of both had it told
                    judges[j * choices + i] = who;
                    takeBack(j, between);
                }
                takeBack(i, before);
            }
        }

        /** Does a choice; what the person was told before. */
        private int choose(int i) {
            if (i <= 0 || facts <= 0) {
                return 0;
            }
            int p = (i - 1) / facts;
            int before = told[p];
            told[p] |= 1 << (i - 1) % facts;
            return before;
        }

        private void takeBack(int i, int before) {
            if (i > 0 && facts > 0) {
                told[(i - 1) / facts] = before;
            }
        }

        private int mostOf(int people) {
            int who = 0;
            for (int p = 1; p < people; p++) {
                if (amounts[told[p]] > amounts[told[who]]) {
                    who = p;
                }
            }
            return who;
        }

        /** Finds the first choices at rest, if there are some. */
        boolean findRest(int want, int other) {
            for (int j = 0; j < choices; j++) {
                canFirst[j] = canGet(j, want);
            }
            for (int i = 0; i < choices; i++) {
                boolean canSecond = canGet(i, other);
                for (int j = 0; j < choices; j++) {
                    int who = judges[i * choices + j];
                    if ((who == want || !canFirst[j]) && (who == other || !canSecond)) {
                        first = i;
                        second = j;
                        judge = who;
                        return true;
                    }
                }
            }
            return false;
        }

        /** Whether, against a choice, some choice makes one the judge. */
        private boolean canGet(int against, int wanted) {
            for (int i = 0; i < choices; i++) {
                if (judges[against * choices + i] == wanted) {
                    return true;
                }
            }
            return false;
        }

        int choice(int i) {
            if (i <= 0 || facts <= 0) {
                return NO_CHOICE;
            }
            return 10 * ((i - 1) / facts) + (i - 1) % facts;
        }
    }

    /**
     * Trials by the fewest facts. What was told so far is numbered by threes
     * (not told, holds, doesn't hold), so that each is looked at once a trial.
     */
    static final class Trial {
        static final int NEVER = 100;
        static final int BITS = 7;
        private static final int[] THREES = {1, 3, 9, 27, 81, 243, 729, 2187, 6561};
        final int[] found = new int[THREES[MOST_FACTS]];
        int trials;

        int fewestFacts(Land land, int possible) {
            // what an earlier trial found bears another number
            trials++;
            int fewest = fewestBehind(land, possible, 0, 0);
            return fewest >= NEVER ? NONE : fewest;
        }

        int firstFact(Land land, int possible, int fewest) {
            for (int f = 0; f < land.facts; f++) {
                if (fewestBy(land, possible, f, 0, 0) == fewest) {
                    return f;
                }
            }
            return NONE;
        }

        private int fewestBehind(Land land, int possible, int so, int depth) {
            if (land.isGuiltKnown(possible)) {
                return 0;
            }
            if (depth >= MOST_FACTS || so < 0 || so >= found.length) {
                return NEVER;
            }
            if (found[so] >> BITS == trials) {
                return found[so] & (1 << BITS) - 1;
            }
            int best = NEVER;
            for (int f = 0; f < land.facts; f++) {
                best = Math.min(best, fewestBy(land, possible, f, so, depth));
            }
            found[so] = trials << BITS | best;
            return best;
        }

        private int fewestBy(Land land, int possible, int f, int so, int depth) {
            if (land.isKnown(f, possible)) {
                return NEVER;
            }
            int holds = fewestBehind(land, possible & land.holding[f], so + THREES[f], depth + 1);
            int fails = fewestBehind(land, possible & ~land.holding[f], so + 2 * THREES[f], depth + 1);
            return Math.min(NEVER, 1 + Math.max(holds, fails));
        }
    }
}
