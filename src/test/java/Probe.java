import java.util.ArrayList;
import java.util.List;

/** All that can be seen of an object, part by part: each part of it within the 512 calls that an object has. */
final class Probe {
    static final String[] PARTS = {"the land", "what can be undone", "images", "rows", "the tape"};
    /** Cut to each sort it is above 0, and each time another number. */
    private static final long LONG = 0x1122334455667748L;

    private final KnowsLeast k;
    private final List<String> seen = new ArrayList<>();

    private Probe(KnowsLeast k) {
        this.k = k;
    }

    /** What one part of an object answers; the object is of no use behind it. */
    static List<String> see(KnowsLeast k, int part) {
        Probe probe = new Probe(k);
        switch (part) {
            case 0:
                probe.seeLand();
                break;
            case 1:
                probe.seeUndone();
                break;
            case 2:
                probe.seeImages();
                break;
            case 3:
                probe.seeRows();
                break;
            default:
                probe.seeTape();
                break;
        }
        return probe.seen;
    }

    private void note(String call, long answer) {
        seen.add(call + " is " + answer);
    }

    private void seeLand() {
        for (int what = 0; what < 10; what++) {
            note("count(" + what + ")", k.count(what));
        }
        note("fault(0)", k.fault(0));
        note("fault(1)", k.fault(1));
        for (int w = 0; w < k.count(0); w++) {
            for (int what = 0; what < 6; what++) {
                note("world(" + w + ", " + what + ")", k.world(w, what));
            }
        }
        for (int f = 0; f < 8; f++) {
            note("fact(" + f + ")", k.fact(f));
            note("hints(" + f + ")", k.hints(f));
        }
        for (int p = 0; p < k.count(2); p++) {
            for (int what = 0; what < 5; what++) {
                note("person(" + p + ", " + what + ")", k.person(p, what));
            }
        }
    }

    private void seeTold() {
        for (int p = 0; p < 6; p++) {
            note("person(" + p + ", 0)", k.person(p, 0));
        }
        note("count(3)", k.count(3));
    }

    private void seeUndone() {
        for (int i = 0; i < 13; i++) {
            note("undo(1)", k.undo(1));
            seeTold();
        }
    }

    private void seeImages() {
        for (int i = 0; i < 2; i++) {
            note("restore(" + i + ")", k.restore(i));
            seeLand();
        }
    }

    private void seeRows() {
        for (int row = 0; row < 4; row++) {
            for (int what = 0; what < 4; what++) {
                note("judge(" + row + ", " + what + ")", k.judge(row, what));
            }
            note("fitting(" + row + ")", k.fitting(row));
            note("sure(" + row + ")", k.sure(row));
            note("perform(" + row + ")", k.perform(row));
            seeTold();
            long answer = 0;
            for (int i = 0; i <= 40 && answer >= 0; i++) {
                answer = k.write(row, i, LONG);
                note("write(" + row + ", " + i + ", " + LONG + ")", answer);
            }
        }
    }

    private void seeTape() {
        note("land of the tape", k.land(k.count(8)));
        seeLand();
    }
}
