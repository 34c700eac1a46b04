/** Bounds that promises 46 to 51 name: rows of numbers, images, counts. */
final class RowBounds {
    private RowBounds() {
    }

    static void all() {
        numbersAllNought();
        numbersNoRow();
        numbersOutside();
        writeCut();
        writeNoRow();
        writeMissing();
        writeNoNumber();
        copyPlaces();
        copyNoRow();
        copyMissing();
        imageNone();
        restoreNone();
        restoreNotMade();
        countTrue();
        countOthers();
        countEdges();
    }

    private static void due(String call, long want, long got) {
        Sentences.due(call, want, got);
    }

    private static void numbersAllNought() {
        Sentences.said(46, "A ROW OF NUMBERS has n numbers of a sort, all 0 (in place of another one): 0.");
        KnowsLeast k = Check.landed(Scene.VILLAGE);
        for (int row = 0; row < 4; row++) {
            due("forty numbers of row " + row, 0, k.numbers(row, row, 40));
            due("all are deeds 0: judge(" + row + ", 1)", 40, k.judge(row, 1));
            for (int i = 0; i < 40; i++) {
                k.write(row, i, 99);
            }
            due("none is one: judge(" + row + ", 1)", 0, k.judge(row, 1));
            due("one of row " + row, 0, k.numbers(row, 3 - row, 1));
            due("it is 0: judge(" + row + ", 1)", 1, k.judge(row, 1));
            due("no second one", -7, k.write(row, 1, 0));
            due("forty again", 0, k.numbers(row, row, 40));
            due("all are 0 again: judge(" + row + ", 1)", 40, k.judge(row, 1));
        }
        due("none", 0, k.numbers(0, 0, 0));
        due("not the first", -7, k.write(0, 0, 0));
        due("none, but not missing", 0, k.copy(0));
    }

    private static void numbersNoRow() {
        Sentences.said(46, "-2: no such ROW, sort");
        Sentences.refusedOutside(Scene.BUSY, "numbers(#, 3, 5)", -2, 0, 3, (k, row) -> k.numbers(row, 3, 5));
        Sentences.refusedOutside(Scene.BUSY, "numbers(0, #, 5)", -2, 0, 3, (k, sort) -> k.numbers(0, sort, 5));
        Sentences.refusedOutside(Scene.FULL, "numbers(#, 0, 0)", -2, 0, 3, (k, row) -> k.numbers(row, 0, 0));
        Sentences.leaves(Scene.BUSY, "numbers(0, 4, 41), ahead of -3", -2, k -> k.numbers(0, 4, 41));
        Sentences.leaves(Scene.BUSY, "numbers(4, 0, -1), ahead of -3", -2, k -> k.numbers(4, 0, -1));
    }

    private static void numbersOutside() {
        Sentences.said(46, "-3, and the ROW stays: n is below 0 or above 40.");
        for (int i = 0; i < 4; i++) {
            int row = i;
            Sentences.refusedOutside(Scene.BUSY, "numbers(" + i + ", 0, #)", -3, 0, 40, (k, n) -> k.numbers(row, 0, n));
        }
        Sentences.refusedOutside(Scene.FULL, "numbers(3, 0, #)", -3, 0, 40, (k, n) -> k.numbers(3, 0, n));
        Sentences.refusedOutside(Scene.NEW, "numbers(0, 0, #)", -3, 0, 40, (k, n) -> k.numbers(0, 0, n));
    }

    private static void writeCut() {
        Sentences.said(47, "Number i of a ROW OF NUMBERS is v, cut to its sort: as it is there.");
        long[] given = {0, -1, 127, 128, 255, 256, -128, -129, 32767, 32768, 65535, 65536, -32769, Integer.MAX_VALUE,
            1L << 31, (1L << 32) - 1, 1L << 32, -(1L << 31) - 1, Long.MAX_VALUE, Long.MIN_VALUE};
        for (int sort = 0; sort < 4; sort++) {
            KnowsLeast k = new KnowsLeast();
            k.numbers(sort, sort, 40);
            int unused = 64 - (8 << sort);
            for (long v : given) {
                long cut = v << unused >> unused;
                due("write(" + sort + ", 0, " + v + ")", cut, k.write(sort, 0, v));
                due("write(" + sort + ", 39, " + v + ")", cut, k.write(sort, 39, v));
            }
        }
        // as it is there: 256 is deed 0 in 8 bits, 65536 in 16, 1L << 32 in 32
        KnowsLeast k = Check.landed(Scene.VILLAGE);
        for (int sort = 0; sort < 4; sort++) {
            k.numbers(sort, sort, 1);
            k.write(sort, 0, sort == 3 ? Long.MIN_VALUE : 1L << (8 << sort));
            due("judge(" + sort + ", 1)", sort == 3 ? 0 : 1, k.judge(sort, 1));
        }
    }

    private static void writeNoRow() {
        Sentences.said(47, "-2: no such ROW");
        Sentences.refusedOutside(Scene.BUSY, "write(#, 0, 7)", -2, 0, 3, (k, row) -> k.write(row, 0, 7));
        Sentences.refusedOutside(Scene.FULL, "write(#, 40, 7), ahead of -7", -2, 0, 3, (k, row) -> k.write(row, 40, 7));
    }

    private static void writeMissing() {
        Sentences.said(47, "-6; -7.");
        Sentences.leaves(Scene.BUSY, "write(3, 0, 7)", -6, k -> k.write(3, 0, 7));
        Sentences.leaves(Scene.BUSY, "write(3, -1, 7), ahead of -7", -6, k -> k.write(3, -1, 7));
        Sentences.leaves(Scene.NEW, "write(0, 40, 7), ahead of -7", -6, k -> k.write(0, 40, 7));
    }

    private static void writeNoNumber() {
        Sentences.said(47, "-7.");
        Sentences.refusedOutside(Scene.BUSY, "write(0, #, 7)", -7, 0, 5, (k, i) -> k.write(0, i, 7));
        Sentences.refusedOutside(Scene.BUSY, "write(1, #, 7)", -7, 0, 1, (k, i) -> k.write(1, i, 7));
        Sentences.refusedOutside(Scene.BUSY, "write(2, #, 7)", -7, 0, -1, (k, i) -> k.write(2, i, 7));
        Sentences.refusedOutside(Scene.FULL, "write(3, #, 7)", -7, 0, 39, (k, i) -> k.write(3, i, 7));
    }

    private static void copyPlaces() {
        Sentences.said(48, "PERSON by PERSON, as many as it has places: how many.");
        int[] places = {0, 1, 5, 6, 7, 40};
        for (int n : places) {
            KnowsLeast k = Scene.FULL.make();
            k.numbers(0, 1, n);
            for (int i = 0; i < n; i++) {
                k.write(0, i, -1);
            }
            due("copy(0) into " + n + " places", Math.min(n, 6), k.copy(0));
            due("none beyond", -7, k.write(0, n, 0));
            // told are 0, 1, 129, ..: as deeds 0 is told 0, 0 is told 1, then 129 can't be
            due("the first that can't be, of " + n, n > 2 ? 2 : -1, k.judge(0, 0));
        }
        // 7 places, 6 people: the last place stays
        KnowsLeast k = Check.landed("world 0 0 0;fact:1=1;fact:1=1;" + "person;".repeat(6));
        Check.row(k, 0, 0, 99, 99, 99, 99, 99, 99, 99);
        due("six of seven", 6, k.copy(0));
        due("the seventh stays", 6, k.judge(0, 0));
        KnowsLeast nobody = Scene.NO_PEOPLE.make();
        due("nobody: copy(0)", 0, nobody.copy(0));
        Sentences.leaves(Scene.NO_PEOPLE, "copy(1)", 0, x -> x.copy(1));
        Sentences.leaves(Scene.BUSY, "copy(2), no places", 0, x -> x.copy(2));
    }

    private static void copyNoRow() {
        Sentences.said(48, "-2; -6.");
        Sentences.refusedOutside(Scene.BUSY, "copy(#)", -2, 0, 3, (k, row) -> k.copy(row));
        Sentences.refusedOutside(Scene.FULL, "copy(#)", -2, 0, 3, (k, row) -> k.copy(row));
        due("the last row: copy(3)", 6, Scene.FULL.make().copy(3));
    }

    private static void copyMissing() {
        Sentences.said(48, "-6.");
        Sentences.leaves(Scene.BUSY, "copy(3)", -6, k -> k.copy(3));
        Sentences.leaves(Scene.NEW, "copy(0)", -6, k -> k.copy(0));
    }

    private static void imageNone() {
        Sentences.said(49, "-2.");
        for (Scene scene : new Scene[] {Scene.NEW, Scene.BUSY, Scene.FULL}) {
            Sentences.refusedOutside(scene, "image(#)", -2, 0, 1, (k, i) -> k.image(i));
        }
        KnowsLeast k = Scene.FULL.make();
        due("the first: image(0)", 0, k.image(0));
        due("the last: image(1)", 0, k.image(1));
        due("both are of now: restore(1)", 0, k.restore(1));
        due("worlds", 16, k.count(0));
        KnowsLeast empty = Scene.FULL.make();
        empty.land(0);
        due("of no land: image(1)", 0, empty.image(1));
        empty.restore(0);
        due("another land: count(0)", 16, empty.count(0));
        due("of no land: restore(1)", 0, empty.restore(1));
        due("no land: count(0)", 0, empty.count(0));
        due("no true world: count(3)", -1, empty.count(3));
    }

    private static void restoreNone() {
        Sentences.said(50, "-2; -5: none was made.");
        for (Scene scene : new Scene[] {Scene.NEW, Scene.BUSY, Scene.FULL}) {
            Sentences.refusedOutside(scene, "restore(#)", -2, 0, 1, (k, i) -> k.restore(i));
        }
        KnowsLeast k = Scene.FULL.make();
        due("the last: restore(1)", 0, k.restore(1));
        due("its land: count(0)", 1, k.count(0));
        due("the first: restore(0)", 0, k.restore(0));
        due("its land: count(0)", 16, k.count(0));
    }

    private static void restoreNotMade() {
        Sentences.said(50, "-5: none was made.");
        Sentences.leaves(Scene.NEW, "restore(0)", -5, k -> k.restore(0));
        Sentences.leaves(Scene.NEW, "restore(1)", -5, k -> k.restore(1));
        Sentences.leaves(Scene.BUSY, "restore(1), the other one was", -5, k -> k.restore(1));
        KnowsLeast k = new KnowsLeast();
        k.image(1);
        due("restore(0), the other one was", -5, k.restore(0));
        due("restore(1)", 0, k.restore(1));
    }

    private static void countTrue() {
        Sentences.said(51, "3 the TRUE WORLD (NONE without WORLDS)");
        Sentences.leaves(Scene.NEW, "count(3)", -1, k -> k.count(3));
        Sentences.leaves(Scene.NO_WORLDS, "count(3)", -1, k -> k.count(3));
        due("of one world", 0, Check.landed("world 1 1 1;").count(3));
        due("the last of sixteen", 15, Scene.FULL.make().count(3));
    }

    private static void countOthers() {
        Sentences.said(51, "NONE for others.");
        Sentences.refusedOutside(Scene.BUSY, "count(#)", -1, 0, 9, (k, what) -> k.count(what));
        Sentences.refusedOutside(Scene.NEW, "count(#)", -1, 0, 9, (k, what) -> k.count(what));
    }

    private static void countEdges() {
        Sentences.said(51, "0 WORLDS, 1 FACTS, 2 PEOPLE");
        int[] full = {16, 8, 6, 15, 12, 5, 4, 24, 900, 38};
        int[] busy = {4, 3, 3, 3, 3, 1, 2, 5, 40, 13};
        KnowsLeast k = Scene.FULL.make();
        KnowsLeast b = Scene.BUSY.make();
        for (int what = 0; what < 10; what++) {
            due("the most there may be: count(" + what + ")", full[what], k.count(what));
            due("some: count(" + what + ")", busy[what], b.count(what));
        }
    }
}
