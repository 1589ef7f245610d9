import java.util.ArrayList;
import java.util.List;

/**
 * All that an object can be asked for, line by line, so that two objects can be held against one another. At its end
 * come the calls that change it (tape, marks, years): an object that was read out is used up.
 */
final class Readout {
    /** Together with the calls by which an object was made these stay below the document's 512. */
    private static final int CALLS = 440;

    private final WellHeirs x;
    private final List<String> lines = new ArrayList<>();
    private int calls = 0;

    private Readout(WellHeirs x) {
        this.x = x;
    }

    static List<String> of(WellHeirs x) {
        Readout r = new Readout(x);
        r.texts();
        r.all();
        return r.done();
    }

    static List<String> withoutTexts(WellHeirs x) {
        Readout r = new Readout(x);
        r.all();
        return r.done();
    }

    private List<String> done() {
        if (calls > CALLS) throw new IllegalStateException("a readout of " + calls + " calls");
        return lines;
    }

    private void tell(String call, long answer) {
        calls += 2;
        lines.add(call + " answered " + answer + ", status " + x.status());
    }

    private void tell(String call, boolean answer) {
        tell(call, answer ? 1 : 0);
    }

    private void plain(String call, long answer) {
        calls++;
        lines.add(call + " answered " + answer);
    }

    private void texts() {
        plain("fault(0)", x.fault(0));
        plain("fault(1)", x.fault(1));
    }

    private void all() {
        plain("top()", x.top());
        plain("bottom()", x.bottom());
        trays();
        world();
        people();
        ropes();
        tape();
        marks();
    }

    private void trays() {
        for (int t = 0; t < 4; t++) {
            long sum = 0;
            int place = 0;
            for (long v = x.read(t, 0); x.status() == 0; v = x.read(t, ++place)) {
                sum = sum * 31 + v;
                calls += 2;
            }
            tell("read(" + t + ", " + place + ") behind those that make " + sum, x.read(t, place));
        }
    }

    private void world() {
        for (int what = 0; what < 7; what++) plain("many(" + what + ")", x.many(what));
        plain("who()", x.who());
        plain("depth(60)", x.depth(60));
        plain("whoThen(30)", x.whoThen(30));
        plain("needed()", x.needed());
        plain("spread(1)", x.spread(1));
    }

    private void people() {
        int people = x.many(0);
        calls++;
        for (int p = 0; p < people; p++) {
            for (int what = 0; what < 5; what++) plain("person(" + p + ", " + what + ")", x.person(p, what));
        }
    }

    private void ropes() {
        for (int r = 0; r < 12; r++) {
            tell("rope(" + r + ", 0)", x.rope(r, 0));
            if (x.status() == 0) {
                for (int what = 1; what < 8; what++) plain("rope(" + r + ", " + what + ")", x.rope(r, what));
                pieces(r, x.rope(r, 2));
                plain("owner(" + r + ", 40)", x.owner(r, 40));
            }
        }
    }

    /** The pieces of one rope in one line: their number is small, but there may be twelve ropes. */
    private void pieces(int rope, int pieces) {
        StringBuilder line = new StringBuilder("pieces of " + rope + ":");
        calls++;
        for (int k = 0; k < pieces; k++) {
            line.append(" ").append(x.piece(rope, k, 0)).append(" of ").append(x.piece(rope, k, 1));
            calls += 2;
        }
        lines.add(line.toString());
    }

    private void tape() {
        int taped = x.feed(0x20202020, 0x20202020, 0x20202020, 0x20202020, 0x20202020);
        plain("feed()", taped);
        x.mark();
        tell("well of the tape", x.well(taped == -1 ? 900 : taped));
        plain("its first rope's yards", x.rope(0, 3));
        calls++;
    }

    private void marks() {
        for (int i = 0; i < 4; i++) {
            tell("back()", x.back());
            plain("people behind back()", x.many(0));
            plain("ropes behind back()", x.many(1));
            plain("rules behind back()", x.many(2));
            plain("year behind back()", x.many(3));
            plain("bottom behind back()", x.many(5));
            plain("draws behind back()", x.many(6));
            plain("owner behind back()", x.rope(0, 0));
            plain("borrower behind back()", x.rope(0, 1));
            plain("pass(1)", x.pass(1));
            plain("who() behind it", x.who());
        }
    }
}
