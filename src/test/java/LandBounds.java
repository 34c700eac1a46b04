import java.util.ArrayList;
import java.util.List;

/** Bounds that promises 1 to 10 name: the tape, the land, its faults, and what is told of it. */
final class LandBounds {
    private LandBounds() {
    }

    static void all() {
        newObject();
        tapeGrows();
        tapeIsFull();
        firstBytes();
        nothingUndone();
        allStaysWithFault();
        landOutside();
        landFaults();
        latestFault();
        otherFaults();
        worldEdges();
        worldNone();
        factNone();
        personEdges();
        personNone();
        hintsNone();
        knowsNot();
        knowsNone();
        cellNone();
    }

    private static void due(String call, long want, long got) {
        Sentences.due(call, want, got);
    }

    private static void newObject() {
        Sentences.said(1, "No WORLDS.");
        KnowsLeast k = new KnowsLeast();
        int[] counts = {0, 0, 0, -1, 0, 0, 0, 0, 0, 0};
        for (int what = 0; what < counts.length; what++) {
            due("count(" + what + ")", counts[what], k.count(what));
        }
        Sentences.leaves(Scene.NEW, "world(0, 0)", -2, n -> n.world(0, 0));
        Sentences.leaves(Scene.NEW, "isTrue(0)", -2, n -> n.isTrue(0));
        Sentences.leaves(Scene.NEW, "reach(1)", -5, n -> n.reach(1));
        Sentences.leaves(Scene.NEW, "together(0)", -5, n -> n.together(0));
    }

    private static void tapeGrows() {
        Sentences.said(2, "Twenty bytes come behind those on THE TAPE, the highest of each int first: how many it has.");
        KnowsLeast k = new KnowsLeast();
        // "world 1 2 3;person;f" and "act:a=1;world 9 9 9;"
        due("on the empty tape", 20, k.feed(0x776f726c, 0x64203120, 0x3220333b, 0x70657273, 0x6f6e3b66));
        due("behind twenty", 40, k.feed(0x6163743a, 0x613d313b, 0x776f726c, 0x64203920, 0x3920393b));
        due("all forty", 4, k.land(40));
        due("a token of both", 1, k.fact(0));
        // bytes of 128 and more are none of those 128 below; of ints below 0 too
        due("of ints below 0", 20, k.feed(0x70657273, 0x6f6e3ba0, 0x8ab2e1a0, -1, Sentences.LOW));
        due("the first of 128 and more", -31, k.land(20));
        due("its place", 7, k.fault(1));
    }

    private static void tapeIsFull() {
        Sentences.said(2, "-5: it would have more than 900.");
        KnowsLeast k = new KnowsLeast();
        for (int i = 1; i <= 45; i++) {
            due("feed " + i, 20 * i, k.feed(0x20202020, 0x20202020, 0x20202020, 0x20202020, 0x20202020));
        }
        due("feed 46", -5, k.feed(0x70657273, 0x6f6e3b20, 0x20202020, 0x20202020, 0x20202020));
        due("bytes on the tape", 900, k.count(8));
        due("feed 47", -5, k.feed(0, 0, 0, 0, 0));
        due("nothing has come on it", 0, k.land(900));
        due("on the empty tape again", 20, k.feed(0, 0, 0, 0, 0));
        Sentences.leaves(Scene.FULL, "feed(0, 0, 0, 0, 0)", -5, f -> f.feed(0, 0, 0, 0, 0));
    }

    private static void firstBytes() {
        Sentences.said(3, "The first n bytes of THE TAPE (which is empty then) are THE LAND");
        int[] n = {0, 7, 14, 20};
        int[] lines = {0, 1, 2, 2};
        for (int i = 0; i < n.length; i++) {
            KnowsLeast k = Scene.FULL.make();
            k.land(0);
            Check.feed(k, "person;person;      ");
            due("land(" + n[i] + ") of 20", lines[i], k.land(n[i]));
            due("people by it", lines[i], k.count(2));
            due("worlds by it", 0, k.count(0));
            due("bytes on the tape then", 0, k.count(8));
        }
        KnowsLeast anew = Scene.FULL.make();
        anew.land(0);
        due("a land behind another", 32, Check.land(anew, "world 9 1 1;".repeat(16) + "fact:1=2;".repeat(8)
                + "person;".repeat(6) + "road 4 5;hint 0 0;"));
        due("its facts hold in none: fact(0)", 0, anew.fact(0));
        due("its facts hold in none: fact(6)", 0, anew.fact(6));
        due("no hints of the other: hints(7)", 0, anew.hints(7));
        due("no roads of the other: person(0, 4)", 0, anew.person(0, 4));
        due("nothing told of the other: person(4, 0)", 0, anew.person(4, 0));
        due("no guilt of the other: count(6)", 0, anew.count(6));
        due("no weight of the other: count(7)", 16, anew.count(7));
        due("not what was true: count(3)", 0, anew.count(3));
        KnowsLeast k = Scene.FULL.make();
        due("land(900) of 900", 3, k.land(900));
        due("people by it", 2, k.count(2));
        due("bytes on the tape then", 0, k.count(8));
        due("land(0) of none", 0, k.land(0));
        due("no people by it", 0, k.count(2));
        due("land(0) of a new object", 0, new KnowsLeast().land(0));
    }

    private static void nothingUndone() {
        Sentences.said(3, "nothing can be UNDONE");
        KnowsLeast k = Scene.FULL.make();
        due("twelve ahead", 12, k.count(4));
        k.land(900);
        due("none behind", 0, k.count(4));
        due("undo(1)", -3, k.undo(1));
    }

    private static List<String> withoutFaultAndTape(List<String> seen) {
        List<String> rest = new ArrayList<>();
        for (String answer : seen) {
            if (!answer.startsWith("fault(") && !answer.startsWith("count(8)")) {
                rest.add(answer);
            }
        }
        return rest;
    }

    private static void allStaysWithFault() {
        Sentences.said(3, "(all stays with a FAULT)");
        for (Scene scene : new Scene[] {Scene.BUSY, Scene.FULL}) {
            // all but the tape, which has been read
            for (int part = 0; part < 4; part++) {
                KnowsLeast k = scene.make();
                due(scene + ": land(27), which ends in a line", -32, k.land(27));
                due(scene + ": the tape then", 0, k.count(8));
                Sentences.same(scene + ": land(27)", part, withoutFaultAndTape(Probe.see(scene.make(), part)),
                        withoutFaultAndTape(Probe.see(k, part)));
            }
        }
    }

    private static void landOutside() {
        Sentences.said(3, "-3: n is below 0 or above what there is (THE TAPE stays)");
        Sentences.refusedOutside(Scene.NEW, "land(#)", -3, 0, 0, (k, n) -> k.land(n));
        Sentences.refusedOutside(Scene.BUSY, "land(#)", -3, 0, 40, (k, n) -> k.land(n));
        for (int n : new int[] {-1, 901, Sentences.LOW, Sentences.HIGH}) {
            Sentences.leaves(Scene.FULL, "land(" + n + ")", -3, k -> k.land(n));
        }
        KnowsLeast k = Scene.BUSY.make();
        k.land(41);
        due("the tape's bytes", 40, k.count(8));
        due("they are as they were", 2, k.land(40));
    }

    private static void landFaults() {
        Sentences.said(3, "-30 less the FAULT.");
        String[] texts = {"$", ";", "true 0;", "person;".repeat(7)};
        int[] places = {0, 0, 5, 42};
        for (int kind = 1; kind <= 4; kind++) {
            KnowsLeast k = new KnowsLeast();
            due("land of '" + texts[kind - 1] + "'", -30 - kind, Check.land(k, texts[kind - 1]));
            due("fault(0)", kind, k.fault(0));
            due("fault(1)", places[kind - 1], k.fault(1));
        }
    }

    private static void latestFault() {
        Sentences.said(4, "Of the latest land() that was read, what 0: its FAULT (0), 1: its place (NONE).");
        KnowsLeast k = new KnowsLeast();
        due("none was read: fault(0)", 0, k.fault(0));
        due("none was read: fault(1)", -1, k.fault(1));
        Check.land(k, "person; $");
        due("fault(0)", 1, k.fault(0));
        due("fault(1)", 8, k.fault(1));
        due("one that isn't read", -3, k.land(1));
        due("fault(0) as it was", 1, k.fault(0));
        due("fault(1) as it was", 8, k.fault(1));
        Check.land(k, "person;");
        due("without a fault: fault(0)", 0, k.fault(0));
        due("without a fault: fault(1)", -1, k.fault(1));
        Check.land(k, "$");
        due("at the first byte: fault(1)", 0, k.fault(1));
        due("the empty text", 0, k.land(0));
        due("of the empty text: fault(0)", 0, k.fault(0));
        due("of the empty text: fault(1)", -1, k.fault(1));
        Check.land(k, " ".repeat(899) + ";");
        due("at the last byte: fault(1)", 899, k.fault(1));
        Check.land(k, "person" + " ".repeat(894));
        due("at the end: fault(1)", 900, k.fault(1));
    }

    private static void otherFaults() {
        Sentences.said(4, "NONE for others.");
        Sentences.refusedOutside(Scene.BUSY, "fault(#)", -1, 0, 1, (k, what) -> k.fault(what));
    }

    private static void worldEdges() {
        Sentences.said(5, "Of a WORLD, what 0: a, 1: b, 2: c, 3: weight, 4: 1 if guilty, else 0, 5: FACTS that hold there, as bits.");
        KnowsLeast k = Scene.FULL.make();
        int[] first = {0, 0, 0, 1, 0, 64};
        int[] last = {15, 99, 99, 9, 1, 255};
        for (int what = 0; what < 6; what++) {
            due("world(0, " + what + ")", first[what], k.world(0, what));
            due("world(15, " + what + ")", last[what], k.world(15, what));
        }
    }

    private static void worldNone() {
        Sentences.said(5, "-2.");
        Sentences.refusedOutside(Scene.FULL, "world(#, 0)", -2, 0, 15, (k, w) -> k.world(w, 0));
        Sentences.refusedOutside(Scene.FULL, "world(15, #)", -2, 0, 5, (k, what) -> k.world(15, what));
        Sentences.refusedOutside(Scene.BUSY, "world(#, 5)", -2, 0, 3, (k, w) -> k.world(w, 5));
        Sentences.refusedOutside(Scene.NO_WORLDS, "world(#, 0)", -2, 0, -1, (k, w) -> k.world(w, 0));
    }

    private static void factNone() {
        Sentences.said(6, "-2.");
        KnowsLeast k = Scene.FULL.make();
        due("the first: fact(0)", 0xff00, k.fact(0));
        due("the last: fact(7)", 0xf0f0, k.fact(7));
        due("in all worlds: fact(6)", 0xffff, k.fact(6));
        due("without worlds: fact(1)", 0, Scene.NO_WORLDS.make().fact(1));
        Sentences.refusedOutside(Scene.FULL, "fact(#)", -2, 0, 7, (x, f) -> x.fact(f));
        Sentences.refusedOutside(Scene.BUSY, "fact(#)", -2, 0, 2, (x, f) -> x.fact(f));
        Sentences.refusedOutside(Scene.NO_FACTS, "fact(#)", -2, 0, -1, (x, f) -> x.fact(f));
    }

    private static void personEdges() {
        Sentences.said(7, "3: 1 if it KNOWS THE GUILT, else 0");
        KnowsLeast k = Scene.FULL.make();
        // told 0 and 7 one holds worlds 12 to 15 possible, all guilty; told 0 alone 8 to 15
        due("person(1, 3)", 0, k.person(1, 3));
        due("person(2, 3)", 1, k.person(2, 3));
        due("without worlds: person(0, 3)", 1, Scene.NO_WORLDS.make().person(0, 3));
        int[] first = {0, 0xffff, 64, 0, 2};
        int[] last = {64, 0xffff, 64, 0, 16};
        for (int what = 0; what < 5; what++) {
            due("person(0, " + what + ")", first[what], k.person(0, what));
            due("person(5, " + what + ")", last[what], k.person(5, what));
        }
    }

    private static void personNone() {
        Sentences.said(7, "-2.");
        Sentences.refusedOutside(Scene.FULL, "person(#, 0)", -2, 0, 5, (k, p) -> k.person(p, 0));
        Sentences.refusedOutside(Scene.FULL, "person(5, #)", -2, 0, 4, (k, what) -> k.person(5, what));
        Sentences.refusedOutside(Scene.BUSY, "person(#, 4)", -2, 0, 2, (k, p) -> k.person(p, 4));
        Sentences.refusedOutside(Scene.NO_PEOPLE, "person(#, 1)", -2, 0, -1, (k, p) -> k.person(p, 1));
    }

    private static void hintsNone() {
        Sentences.said(8, "-2.");
        KnowsLeast k = Scene.FULL.make();
        due("the first: hints(0)", 0, k.hints(0));
        due("the last: hints(7)", 129, k.hints(7));
        Sentences.refusedOutside(Scene.FULL, "hints(#)", -2, 0, 7, (x, f) -> x.hints(f));
        Sentences.refusedOutside(Scene.BUSY, "hints(#)", -2, 0, 2, (x, f) -> x.hints(f));
        Sentences.refusedOutside(Scene.NO_FACTS, "hints(#)", -2, 0, -1, (x, f) -> x.hints(f));
    }

    private static void knowsNot() {
        Sentences.said(9, "NONE: it doesn't KNOW it");
        KnowsLeast k = Scene.FULL.make();
        due("knows(0, 0)", -1, k.knows(0, 0));
        due("of two worlds: knows(3, 2)", -1, k.knows(3, 2));
        due("of one: knows(4, 2)", 1, k.knows(4, 2));
        due("in all worlds: knows(0, 6)", 1, k.knows(0, 6));
        k.isTrue(0);
        due("that it doesn't hold: knows(1, 0)", 0, k.knows(1, 0));
        due("that it doesn't hold, untold: knows(1, 3)", 0, k.knows(1, 3));
    }

    private static void knowsNone() {
        Sentences.said(9, "-2.");
        Sentences.refusedOutside(Scene.FULL, "knows(#, 7)", -2, 0, 5, (k, p) -> k.knows(p, 7));
        Sentences.refusedOutside(Scene.FULL, "knows(5, #)", -2, 0, 7, (k, f) -> k.knows(5, f));
        Sentences.refusedOutside(Scene.BUSY, "knows(#, 0)", -2, 0, 2, (k, p) -> k.knows(p, 0));
        Sentences.refusedOutside(Scene.BUSY, "knows(0, #)", -2, 0, 2, (k, f) -> k.knows(0, f));
        Sentences.leaves(Scene.NO_PEOPLE, "knows(0, 0)", -2, k -> k.knows(0, 0));
        Sentences.leaves(Scene.NO_FACTS, "knows(0, 0)", -2, k -> k.knows(0, 0));
    }

    private static void cellNone() {
        Sentences.said(10, "-2.");
        KnowsLeast k = Scene.FULL.make();
        due("the first: cell(0, 0)", 0xffff, k.cell(0, 0));
        due("the last person: cell(5, 15)", 0xffff, k.cell(5, 15));
        due("one world: cell(4, 15)", 0x8000, k.cell(4, 15));
        due("one world: cell(4, 0)", 1, k.cell(4, 0));
        Sentences.refusedOutside(Scene.FULL, "cell(#, 15)", -2, 0, 5, (x, p) -> x.cell(p, 15));
        Sentences.refusedOutside(Scene.FULL, "cell(5, #)", -2, 0, 15, (x, w) -> x.cell(5, w));
        Sentences.refusedOutside(Scene.BUSY, "cell(#, 0)", -2, 0, 2, (x, p) -> x.cell(p, 0));
        Sentences.refusedOutside(Scene.BUSY, "cell(0, #)", -2, 0, 3, (x, w) -> x.cell(0, w));
        Sentences.leaves(Scene.NO_WORLDS, "cell(0, 0)", -2, x -> x.cell(0, 0));
        Sentences.leaves(Scene.NO_PEOPLE, "cell(0, 0)", -2, x -> x.cell(0, 0));
    }
}
