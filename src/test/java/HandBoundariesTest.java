/** What the document says of what is done by hand, of what is what, of MARKS and FRACTIONS: each boundary by itself. */
public final class HandBoundariesTest {
    private static final Check c = new Check();
    private static final int MAX = Integer.MAX_VALUE;
    private static final int MIN = Integer.MIN_VALUE;
    private static final String FOUR = " yards 1 age 1 yards 1 age 1 yards 1 age 1 yards 1 age 1";

    /** OWNER, PIECES, YARDS and how it SLIPS. */
    private static void is(WellHeirs x, int rope, int owner, int pieces, int yards, int slips) {
        c.due(x, "OWNER of " + rope, x.rope(rope, 0), owner, 0);
        c.due(x, "PIECES of " + rope, x.rope(rope, 2), pieces, 0);
        c.due(x, "YARDS of " + rope, x.rope(rope, 3), yards, 0);
        c.due(x, "how " + rope + " SLIPS", x.rope(rope, 7), slips, 0);
        c.due(x, rope + " is not HOLY", x.rope(rope, 6), 0, 0);
        c.due(x, rope + " is not lent", x.rope(rope, 1), -1, 8);
    }

    /** YARDS and AGE of each PIECE. */
    private static void pieces(WellHeirs x, int rope, int... due) {
        for (int k = 0; 2 * k < due.length; k++) {
            c.due(x, "YARDS of PIECE " + k + " of " + rope, x.piece(rope, k, 0), due[2 * k], 0);
            c.due(x, "AGE of PIECE " + k + " of " + rope, x.piece(rope, k, 1), due[2 * k + 1], 0);
        }
        c.due(x, "a PIECE more", x.piece(rope, due.length / 2, 0), -1, 5);
    }

    // ---- by hand

    private static void knot() {
        c.says("KNOT of two ROPES of one OWNER, neither HOLY nor lent: the second's PIECES come behind the first's; the second is GONE; "
            + "it SLIPS as the one of both that SLIPS more.");
        String well = "person a;rope r of a yards 5 age 1 yards 6 age 2 slips 3;rope s of a yards 7 age 3 yards 8 age 4 slips 9;rope t of a yards 9 age 5 slips 3;";
        WellHeirs x = c.with(well);
        c.due(x, "knot(0,1)", x.knot(0, 1), 4, 0);
        is(x, 0, 0, 4, 26, 9);
        pieces(x, 0, 5, 1, 6, 2, 7, 3, 8, 4);
        c.due(x, "GONE", x.rope(1, 0), -1, 2);
        c.due(x, "two are left", x.many(1), 2, 0);
        x = c.with(well);
        c.due(x, "knot(1,0)", x.knot(1, 0), 4, 0);
        is(x, 1, 0, 4, 26, 9);
        pieces(x, 1, 7, 3, 8, 4, 5, 1, 6, 2);
        c.due(x, "GONE", x.rope(0, 0), -1, 2);
        x = c.with(well);
        c.due(x, "one PIECE to two", x.knot(0, 2), 3, 0);
        is(x, 0, 0, 3, 20, 3);
        c.due(x, "the other", x.rope(1, 7), 9, 0);
        x = c.with("person a;rope r of a yards 1 age 1 slips 0;rope s of a yards 1 age 1 slips 15;");
        c.due(x, "one to one", x.knot(0, 1), 2, 0);
        is(x, 0, 0, 2, 2, 15);
        c.says("KNOT: PIECES that it has then (2: one and the same, too; 7: more than 8 PIECES; 9).");
        x = c.with("person a;rope r of a" + FOUR + ";rope s of a" + FOUR + ";rope t of a yards 1 age 1;rope u of a yards 1 age 1 yards 1 age 1;");
        c.due(x, "seven is no boundary", x.knot(1, 3), 6, 0);
        c.due(x, "seven PIECES", x.knot(1, 2), 7, 0);
        c.due(x, "eleven", x.knot(1, 0), -1, 7);
        c.due(x, "eleven", x.knot(0, 1), -1, 7);
        c.due(x, "undo", x.undo(0, 3), 2, 0);
        c.due(x, "eight PIECES", x.knot(2, 1), 8, 0);
        c.due(x, "nine would be eleven: 3 and 8", x.knot(0, 2), -1, 7);
        c.due(x, "undo", x.undo(0, 1), 1, 0);
        c.due(x, "nine", x.knot(0, 2), -1, 7);
        c.due(x, "nine", x.knot(2, 0), -1, 7);
        c.due(x, "nothing changed", x.rope(2, 2), 8, 0);
        for (int r : new int[] {-1, 3, 12, MIN, MAX}) {
            c.due(x, "no such first", x.knot(r, 0), -1, 2);
            c.due(x, "no such second", x.knot(0, r), -1, 2);
        }
        for (int r = 0; r <= 2; r++) c.due(x, "one and the same", x.knot(r, r), -1, 2);
        x = c.with("person a dies 1;person b dies 1;rope r of a yards 2 age 1;rope s of b yards 3 age 1;");
        x.pass(1);
        c.due(x, "both the WELL's", x.knot(1, 0), 2, 0);
    }

    private static void undo() {
        c.says("UNDO: of a ROPE that is not HOLY nor lent the k-th KNOT (1 ..): PIECES behind it are a new ROPE of the same OWNER, that SLIPS alike.");
        String well = "person z;person a;rope r of a yards 5 age 1 yards 6 age 2 yards 7 age 3 yards 8 age 4 slips 9;rope s of a yards 1 age 1;";
        for (int k = 1; k <= 3; k++) {
            WellHeirs x = c.with(well);
            c.due(x, "undo(0," + k + ")", x.undo(0, k), 2, 0);
            is(x, 0, 1, k, 5 * k + k * (k - 1) / 2, 9);
            is(x, 2, 1, 4 - k, 26 - 5 * k - k * (k - 1) / 2, 9);
            c.due(x, "the first PIECE behind it", x.piece(2, 0, 0), 5 + k, 0);
            c.due(x, "its AGE", x.piece(2, 0, 1), 1 + k, 0);
            c.due(x, "the last PIECE ahead of it", x.piece(0, k - 1, 0), 4 + k, 0);
        }
        c.says("UNDO: the number of the new ROPE (2; 5: no such KNOT; 7: there are 12; 9).");
        WellHeirs x = c.with(well);
        for (int k : new int[] {0, 4, -1, MIN, MAX}) c.due(x, "undo(0," + k + ")", x.undo(0, k), -1, 5);
        c.due(x, "without a KNOT", x.undo(1, 1), -1, 5);
        c.due(x, "without a KNOT", x.undo(1, 0), -1, 5);
        for (int r : new int[] {-1, 2, 12, MIN, MAX}) c.due(x, "no such ROPE", x.undo(r, 1), -1, 2);
        for (int i = 0; i < 9; i++) x.cut(0, 1);
        c.due(x, "eleven", x.many(1), 11, 0);
        c.due(x, "the twelfth", x.undo(0, 1), 11, 0);
        c.due(x, "there are 12", x.undo(0, 1), -1, 5);
        x.knot(0, 11);
        x.cut(0, 1);
        c.due(x, "there are 12", x.undo(0, 1), -1, 7);
        x = c.with("person a;rope r of a" + FOUR + ";rope s of a" + FOUR + ";");
        x.knot(0, 1);
        c.due(x, "the seventh KNOT, the number that is GONE", x.undo(0, 7), 1, 0);
        is(x, 0, 0, 7, 7, 0);
        is(x, 1, 0, 1, 1, 0);
        x.knot(0, 1);
        c.due(x, "an eighth", x.undo(0, 8), -1, 5);
    }

    private static void cut() {
        c.says("CUT: of such a ROPE so many YARDS from its end on (1 to one less than it has) are a new ROPE likewise; PIECES are cut where it falls within them.");
        String well = "person z;person a;rope r of a yards 5 age 1 yards 6 age 2 yards 7 age 3 slips 9;rope s of a yards 1 age 1;rope t of a yards 2 age 1;";
        int[][] cuts = {{1, 3, 6, 1, 1}, {6, 3, 1, 1, 6}, {7, 2, 6, 1, 7}, {8, 2, 5, 2, 1}, {12, 2, 1, 2, 5}, {13, 1, 5, 2, 6}, {14, 1, 4, 3, 1}, {17, 1, 1, 3, 4}};
        for (int[] one : cuts) {
            WellHeirs x = c.with(well);
            c.due(x, "cut(0," + one[0] + ")", x.cut(0, one[0]), 3, 0);
            is(x, 0, 1, one[1], 18 - one[0], 9);
            is(x, 3, 1, one[3], one[0], 9);
            c.due(x, "the last PIECE that stays", x.piece(0, one[1] - 1, 0), one[2], 0);
            c.due(x, "its AGE", x.piece(0, one[1] - 1, 1), one[1], 0);
            c.due(x, "the first PIECE of the new one", x.piece(3, 0, 0), one[4], 0);
            c.due(x, "its AGE", x.piece(3, 0, 1), 4 - one[3], 0);
        }
        c.says("CUT: the number of the new ROPE (2; 5; 7; 9).");
        WellHeirs x = c.with(well);
        for (int yards : new int[] {0, 18, 19, -1, MIN, MAX}) c.due(x, "cut(0," + yards + ")", x.cut(0, yards), -1, 5);
        for (int yards : new int[] {0, 1, 2}) c.due(x, "of one YARD", x.cut(1, yards), -1, 5);
        c.due(x, "of two YARDS", x.cut(2, 2), -1, 5);
        c.due(x, "of two YARDS", x.cut(2, 1), 3, 0);
        for (int r : new int[] {-1, 4, 12, MIN, MAX}) c.due(x, "no such ROPE", x.cut(r, 1), -1, 2);
        for (int i = 4; i < 12; i++) c.due(x, "up to twelve", x.cut(0, 1), i, 0);
        c.due(x, "there are 12", x.cut(0, 1), -1, 7);
        x.knot(0, 4);
        c.due(x, "the number that is GONE", x.cut(0, 1), 4, 0);
        x = c.with("person a;rope r of a yards 200 age 1 yards 200 age 1 yards 200 age 1 yards 200 age 1;rope s of a yards 200 age 1 yards 200 age 1 yards 200 age 1 yards 200 age 1;");
        x.knot(0, 1);
        c.due(x, "the most of the longest", x.cut(0, 1599), 1, 0);
        is(x, 0, 0, 1, 1, 0);
        is(x, 1, 0, 8, 1599, 0);
    }

    private static void sell() {
        c.says("SELL: a CUT whose new ROPE is another PERSON's who is alive (all YARDS: the ROPE itself); "
            + "PRICE: its YARDS times 1 and how many who are alive do not DRINK (as it is ahead of the sale).");
        String well = "water 10 bottom 99;person a;person b;person d dies 5;rope r of a yards 10 age 1 yards 11 age 2 slips 5;rope s of b yards 9 age 1;";
        WellHeirs x = c.with(well);
        c.due(x, "one YARD, two do not DRINK", x.sell(0, 1, 1), 3, 0);
        is(x, 2, 1, 1, 1, 5);
        is(x, 0, 0, 2, 20, 5);
        x = c.with(well);
        c.due(x, "all but one", x.sell(0, 20, 1), 60, 0);
        is(x, 2, 1, 2, 20, 5);
        is(x, 0, 0, 1, 1, 5);
        c.due(x, "cut within", x.piece(2, 0, 0), 9, 0);
        x = c.with(well);
        c.due(x, "all: the ROPE itself", x.sell(0, 21, 2), 63, 0);
        is(x, 0, 2, 2, 21, 5);
        c.due(x, "none is new", x.many(1), 2, 0);
        c.due(x, "d DRINKS now: two do not", x.sell(1, 9, 0), 27, 0);
        x = c.with(well);
        x.pass(5);
        c.due(x, "the dead do not count", x.sell(0, 1, 1), 2, 0);
        x = c.with("water 10 bottom 99;person a;person b;rope r of a yards 10 age 1;rope s of b yards 20 age 1;");
        c.due(x, "all DRINK ahead of the sale", x.sell(0, 10, 1), 10, 0);
        c.due(x, "one does not", x.sell(1, 1, 0), 2, 0);
        x = c.with("water 10 bottom 9;person a;person b;rope r of a yards 10 age 1;rope s of b yards 20 age 1;");
        c.due(x, "in a DRY well none does", x.sell(0, 10, 1), 30, 0);
        StringBuilder t = new StringBuilder("water 999 bottom 0;");
        for (int i = 0; i < 8; i++) t.append("person p").append((char) ('a' + i)).append(";");
        x = c.with(t + "rope r of pa yards 200 age 1 yards 200 age 1 yards 200 age 1 yards 200 age 1;rope s of pa yards 200 age 1 yards 200 age 1 yards 200 age 1 yards 200 age 1;");
        x.knot(0, 1);
        c.due(x, "the greatest PRICE", x.sell(0, 1600, 7), 14400, 0);
        c.says("SELL: the PRICE (2; 5: YARDS, more than it has, too; 7; 9: HOLY, lent, one who is not alive, or its OWNER).");
        x = c.with(well);
        for (int yards : new int[] {0, 22, -1, MIN, MAX}) c.due(x, "sell(0," + yards + ",1)", x.sell(0, yards, 1), -1, 5);
        for (int r : new int[] {-1, 2, 12, MIN, MAX}) c.due(x, "no such ROPE", x.sell(r, 1, 1), -1, 2);
        for (int p : new int[] {-1, 3, 8, MIN, MAX}) c.due(x, "no such PERSON", x.sell(0, 1, p), -1, 2);
        for (int i = 0; i < 9; i++) x.cut(0, 1);
        c.due(x, "the twelfth ROPE", x.sell(0, 1, 1), 3, 0);
        c.due(x, "it is number 11", x.rope(11, 0), 1, 0);
        c.due(x, "there are 12", x.sell(0, 1, 1), -1, 7);
        c.due(x, "all YARDS, though there are 12", x.sell(0, 11, 1), 33, 0);
    }

    private static void lend() {
        c.says("LEND: a ROPE to a PERSON who is alive and not its OWNER; TAKE BACK.");
        c.says("LEND: YARDS of all ROPES that the PERSON HOLDS then (2; 9: lent already, one who is not alive, or its OWNER).");
        WellHeirs x = c.with("person a;person b;person d dies 1;rope r of a yards 20 age 1;rope s of b yards 9 age 1 holy;rope t of b yards 4 age 1;rope u of d yards 1 age 1;");
        c.due(x, "with its own", x.lend(0, 1), 33, 0);
        c.due(x, "a HOLY one, to who has lent all", x.lend(1, 0), 9, 0);
        c.due(x, "one more", x.lend(2, 0), 13, 0);
        c.due(x, "without what it has lent", x.lend(3, 1), 21, 0);
        c.due(x, "lent already, to the same", x.lend(0, 1), -1, 9);
        c.due(x, "lent already, to its OWNER", x.lend(0, 0), -1, 9);
        c.due(x, "lent already", x.lend(0, 2), -1, 9);
        for (int r : new int[] {-1, 4, 12, MIN, MAX}) c.due(x, "no such ROPE", x.lend(r, 1), -1, 2);
        for (int p : new int[] {-1, 3, 8, MIN, MAX}) c.due(x, "no such PERSON", x.lend(0, p), -1, 2);
        c.says("TAKE BACK: who had it (2; 8: it is not lent).");
        c.due(x, "who had it", x.takeBack(0), 1, 0);
        c.due(x, "PERSON 0", x.takeBack(1), 0, 0);
        c.due(x, "not lent any more", x.takeBack(0), -1, 8);
        c.due(x, "its own again", x.person(0, 4), 24, 0);
        c.due(x, "its OWNER", x.lend(0, 0), -1, 9);
        for (int r : new int[] {-1, 4, 12, MIN, MAX}) c.due(x, "no such ROPE", x.takeBack(r), -1, 2);
        c.due(x, "in the YEAR before it DIES", x.lend(0, 2), 20, 0);
        x.pass(1);
        c.due(x, "lent no more", x.takeBack(0), -1, 8);
        c.due(x, "one who is not alive", x.lend(0, 2), -1, 9);
        c.due(x, "the WELL's", x.lend(3, 0), 25, 0);
        c.due(x, "TAKE BACK of the WELL's", x.takeBack(3), 0, 0);
    }

    private static void dig() {
        c.says("DIG: the BOTTOM is so many yards deeper (999 at most); STONE: so many less deep (0 at least).");
        int[][] cases = {{900, 98, 998}, {900, 99, 999}, {901, 99, 999}, {998, 1, 999}, {999, 1, 999}, {999, 99, 999}, {0, 1, 1}, {0, 99, 99},
            {0, -1, 0}, {0, -99, 0}, {1, -1, 0}, {1, -2, 0}, {99, -99, 0}, {98, -99, 0}, {100, -99, 1}, {999, -1, 998}};
        for (int[] one : cases) {
            WellHeirs x = c.with("water 0 bottom " + one[0] + ";");
            c.due(x, "dig(" + one[1] + ") from " + one[0], x.dig(one[1]), one[2], 0);
            c.due(x, "BOTTOM", x.many(5), one[2], 0);
        }
        c.says("DIG by so many yards (1 to 99), or below 0: a STONE by so many (-1 to -99): BOTTOM then (5: 0, too).");
        WellHeirs x = c.with("water 0 bottom 500;");
        for (int yards : new int[] {0, 100, -100, MIN, MAX}) c.due(x, "dig(" + yards + ")", x.dig(yards), -1, 5);
        c.due(x, "BOTTOM", x.many(5), 500, 0);
        c.due("of a new object", new WellHeirs().dig(7), 7);
    }

    // ---- what is what

    private static void led() {
        c.says("LED: from the top of a ROPE which PIECE its k-th YARD (0 ..) is of: of which AGE.");
        c.says("LED: the AGE of a YARD (2; 5: it has not that).");
        WellHeirs x = c.with("person a;rope r of a yards 1 age 50 yards 2 age 0 yards 200 age 300;rope s of a yards 1 age 9;");
        int[][] due = {{0, 50}, {1, 0}, {2, 0}, {3, 300}, {202, 300}};
        for (int[] one : due) c.due(x, "led(0," + one[0] + ")", x.led(0, one[0]), one[1], 0);
        for (int yard : new int[] {-1, 203, MIN, MAX}) c.due(x, "led(0," + yard + ")", x.led(0, yard), -1, 5);
        c.due(x, "one YARD", x.led(1, 0), 9, 0);
        c.due(x, "one YARD", x.led(1, 1), -1, 5);
        for (int r : new int[] {-1, 2, 12, MIN, MAX}) c.due(x, "no such ROPE", x.led(r, -1), -1, 2);
        x.mark();
        x.undo(0, 2);
        c.due(x, "the last YARD that is left", x.led(0, 2), 0, 0);
        c.due(x, "what was undone", x.led(0, 3), -1, 5);
        c.due(x, "is of another ROPE", x.led(2, 0), 300, 0);
        x.cut(0, 1);
        c.due(x, "what was cut", x.led(0, 2), -1, 5);
        x.knot(0, 3);
        c.due(x, "knotted on again", x.led(0, 2), 0, 0);
        c.due(x, "not more", x.led(0, 3), -1, 5);
        x.back();
        for (int i = 0; i < 4; i++) x.pass(50);
        for (int[] one : due) c.due(x, "led(0," + one[0] + ") in YEAR 200", x.led(0, one[0]), one[1] + 200, 0);
    }

    private static void share() {
        c.says("SHARE: YARDS of a PERSON's own by those of all ROPES.");
        c.says("The FRACTION is the SHARE of a PERSON (2; 8: there are no ROPES).");
        WellHeirs x = c.with("person a dies 9;person b;rope r of a yards 1 age 1;");
        c.fraction(x, "all", x.share(0), 1, 1);
        c.fraction(x, "nothing: 0 by 1", x.share(1), 0, 1);
        x.lend(0, 1);
        c.fraction(x, "lent, it is its own still", x.share(0), 1, 1);
        c.fraction(x, "what is borrowed is not", x.share(1), 0, 1);
        for (int p : new int[] {-1, 2, 8, MIN, MAX}) c.due(x, "no such PERSON", x.share(p), false, 2);
        x.pass(9);
        c.fraction(x, "the WELL's: nobody's", x.share(1), 0, 1);
        x = c.with("person a dies 1;person b;person d;rope r of a yards 6 age 1;rope s of b yards 4 age 1;rope t of d yards 2 age 1;");
        c.fraction(x, "without a common divisor", x.share(1), 1, 3);
        x.pass(1);
        c.fraction(x, "the WELL's are ROPES, too", x.share(2), 1, 6);
        x = c.with("person a;");
        c.due(x, "no ROPES", x.share(0), false, 8);
        c.due(x, "no such PERSON, ahead of 8", x.share(1), false, 2);
    }

    private static void heirloom() {
        c.says("HEIRLOOM of a PERSON: its own ROPE that is oldest (of several the first).");
        c.says("HEIRLOOM (2; 8).");
        WellHeirs x = c.with("person a;person b;rope r of a yards 1 age 3;rope s of a yards 1 age 1 yards 1 age 9;rope t of b yards 1 age 10;rope u of a yards 1 age 9 yards 1 age 9;"
            + "rope v of a yards 9 age 8;");
        c.due(x, "of several the first", x.heirloom(0), 1, 0);
        x.lend(1, 1);
        c.due(x, "lent", x.heirloom(0), 1, 0);
        c.due(x, "what is borrowed is not its own", x.heirloom(1), 2, 0);
        x.sell(2, 1, 0);
        c.due(x, "10 years", x.heirloom(0), 2, 0);
        c.due(x, "none", x.heirloom(1), -1, 8);
        for (int p : new int[] {-1, 2, 8, MIN, MAX}) c.due(x, "no such PERSON", x.heirloom(p), -1, 2);
        x = c.with("person a;person b dies 1;rope r of a yards 1 age 0;rope s of b yards 1 age 300;");
        c.due(x, "of AGE 0", x.heirloom(0), 0, 0);
        x.pass(1);
        c.due(x, "the WELL's is nobody's", x.heirloom(1), -1, 8);
    }

    private static void yardsOf() {
        c.says("YARDS of all ROPES that are of an AGE from one to another one (5: below 0, the second below the first).");
        WellHeirs x = c.with("person a dies 3;person b;rope r of a yards 1 age 0 yards 2 age 300;rope s of b yards 4 age 5;rope t of b yards 8 age 6 holy;");
        int[][] cases = {{0, 0, 1}, {0, 4, 1}, {0, 5, 5}, {5, 5, 4}, {5, 6, 12}, {6, 299, 8}, {6, 300, 10}, {300, 300, 2}, {301, MAX, 0}, {0, MAX, 15}, {MAX, MAX, 0}, {1, 4, 0}};
        for (int[] one : cases) c.due(x, "yardsOf(" + one[0] + ", " + one[1] + ")", x.yardsOf(one[0], one[1]), one[2], 0);
        int[][] bad = {{-1, 5}, {MIN, MAX}, {1, 0}, {300, 299}, {0, -1}, {MAX, MIN}, {-2, -1}};
        for (int[] one : bad) c.due(x, "yardsOf(" + one[0] + ", " + one[1] + ")", x.yardsOf(one[0], one[1]), -1, 5);
        x.mark();
        c.due(x, "undo", x.undo(0, 1), 3, 0);
        c.due(x, "as before", x.yardsOf(300, 300), 2, 0);
        c.due(x, "cut", x.cut(1, 3), 4, 0);
        c.due(x, "as before", x.yardsOf(5, 5), 4, 0);
        x.knot(3, 0);
        c.due(x, "as before", x.yardsOf(0, 300), 15, 0);
        x.back();
        x.lend(1, 0);
        x.pass(3);
        c.due(x, "the WELL's, three years later", x.yardsOf(3, 3), 1, 0);
        c.due(x, "all", x.yardsOf(0, 303), 15, 0);
        c.due(x, "all but the oldest", x.yardsOf(0, 302), 13, 0);
        c.due("none", new WellHeirs().yardsOf(0, 0), 0);
    }

    private static void needed() {
        c.says("NEEDED is a ROPE without which (it alone GONE) fewer would DRINK now.");
        c.says("The set of ROPES (1 for ROPE 0 ..) that are NEEDED.");
        String well = "water 5 bottom 5;person a;person b;person d;rope r of a yards 5 age 1;rope s of b yards 5 age 1;rope t of b yards 9 age 1;rope u of d yards 4 age 1;";
        WellHeirs x = c.with(well);
        c.due(x, "the only one that reaches", x.needed(), 1, 0);
        x.lend(2, 2);
        c.due(x, "one each", x.needed(), 7, 0);
        x.takeBack(2);
        x.lend(1, 0);
        c.due(x, "a has two, b has one", x.needed(), 4, 0);
        x.dig(-1);
        c.due(x, "DRY: nobody DRINKS", x.needed(), 0, 0);
        x = c.with("person a;rope r of a yards 50 age 1;");
        for (int i = 1; i < 12; i++) x.cut(0, 1);
        c.due(x, "all twelve reach DEPTH 0", x.needed(), 0, 0);
        int[][] reaching = {{60, 4, 1}, {50, 5, 0}, {50, 6, 2048}};
        for (int[] one : reaching) {
            x = c.with("water 5 bottom 5;person a;rope r of a yards " + one[0] + " age 1;");
            for (int i = 1; i < 12; i++) x.cut(0, i == 11 ? one[1] : 4);
            c.due(x, "the first, both, or the last of twelve reach", x.needed(), one[2], 0);
        }
        c.due("none without ROPES", new WellHeirs().needed(), 0);
        x = c.with("person a;person b dies 1;rope r of b yards 3 age 1;");
        c.due(x, "b's", x.needed(), 1, 0);
        x.pass(1);
        c.due(x, "the WELL's, by which nobody DRINKS", x.needed(), 0, 0);
        StringBuilder t = new StringBuilder("water 9 bottom 9;");
        for (int i = 0; i < 8; i++) t.append("person p").append((char) ('a' + i)).append(";");
        x = c.with(t + "rope r of pa yards 200 age 1;");
        for (int i = 0; i < 7; i++) x.sell(0, 10, 1 + i);
        for (int i = 0; i < 4; i++) x.cut(0, 1);
        c.due(x, "eight of twelve", x.needed(), 255, 0);
        x.lend(0, 1);
        c.due(x, "the first is one more of another one", x.needed(), 252, 0);
    }

    private static void plan() {
        c.says("PLAN: ROPES are handed out to all who are alive (whosesoever they are), and knotted on as KNOTS (not HOLY ones), so that all DRINK: the fewest KNOTS more: "
            + "each one gets a set of ROPES, no two the same one, of a REACH as if knotted together (of more than 8 PIECES, too) of at least DEPTH.");
        c.says("PLAN: KNOTS more (8: nobody is alive; 9: it can't be).");
        String one = " bottom 99;person a;rope r of a yards 5 age 1;rope s of a yards 6 age 1;";
        c.due("REACH of 10 by one KNOT", c.with("water 10" + one).plan(), 1);
        WellHeirs x = c.with("water 11" + one);
        c.due(x, "not of 11", x.plan(), -1, 9);
        c.due("6 alone", c.with("water 6" + one).plan(), 0);
        c.due("7 by a KNOT", c.with("water 7" + one).plan(), 1);
        String knotted = " bottom 99;person a;rope r of a yards 5 age 1 yards 5 age 1;rope s of a yards 5 age 1;";
        c.due("a KNOT that is there counts in REACH alone", c.with("water 13" + knotted).plan(), 1);
        x = c.with("water 14" + knotted);
        c.due(x, "one YARD less for each KNOT", x.plan(), -1, 9);
        c.due("no KNOT more", c.with("water 9" + knotted).plan(), 0);
        String holy = " bottom 99;person a;rope r of a yards 9 age 1 holy;rope s of a yards 5 age 1;rope t of a yards 4 age 1;";
        c.due("a HOLY one alone", c.with("water 9" + holy).plan(), 0);
        x = c.with("water 10" + holy);
        c.due(x, "a HOLY one is not knotted", x.plan(), -1, 9);
        String three = " bottom 99;person a;person b;person d dies 1;rope r of a yards 10 age 1;rope s of a yards 5 age 1;rope t of a yards 6 age 1;";
        x = c.with("water 10" + three);
        c.due(x, "three can't", x.plan(), -1, 9);
        x.pass(1);
        c.due(x, "two can: all who are alive", x.plan(), 1, 0);
        x.lend(1, 1);
        c.due(x, "lent or not", x.plan(), 1, 0);
        x = c.with("water 3 bottom 9;person a;person z dies 1;rope r of z yards 3 age 1;");
        x.pass(1);
        c.due(x, "the WELL's, too", x.plan(), 0, 0);
        x = c.with("person a;person b;person d;rope r of a yards 1 age 1;rope s of a yards 1 age 1;");
        c.due(x, "DEPTH 0: one ROPE each", x.plan(), -1, 9);
        x = c.with("person a;person b;rope r of a yards 1 age 1;rope s of a yards 1 age 1;");
        c.due(x, "DEPTH 0: two of two", x.plan(), 0, 0);
        x = c.with("water 1 bottom 1;person a;person b;rope r of a yards 1 age 1;rope s of a yards 1 age 1;");
        c.due(x, "DEPTH 1: two of two", x.plan(), 0, 0);
        x = c.with("water 2 bottom 2;person a;rope r of a yards 1 age 1;rope s of a yards 1 age 1;");
        c.due(x, "YARDS that a KNOT takes", x.plan(), -1, 9);
        String pairs = "person a;person b;rope r of a yards 5 age 1;rope s of a yards 6 age 1;rope t of a yards 5 age 1;rope u of a yards ";
        c.due("two pairs", c.with("water 10 bottom 10;" + pairs + "6 age 1;").plan(), 2);
        x = c.with("water 10 bottom 10;" + pairs + "5 age 1;");
        c.due(x, "the second pair is a YARD short", x.plan(), -1, 9);
        x = c.with("water 10 bottom 10;" + pairs + "9 age 1;");
        c.due(x, "what is more in one pair does not help the other", x.plan(), 2, 0);
        x = c.with("water 10 bottom 10;" + pairs.replace("rope s of a yards 6", "rope s of a yards 9") + "4 age 1;");
        c.due(x, "5 and 4 are too short, 9 and 5 do", x.spread(11), 1, 0);
        c.due("two of two YARDS reach 3", c.with("water 3 bottom 9;person a;rope r of a yards 2 age 1;rope s of a yards 2 age 1;").plan(), 1);
        x = c.with("water 4 bottom 9;person a;rope r of a yards 2 age 1;rope s of a yards 2 age 1;");
        c.due(x, "not 4", x.plan(), -1, 9);
        x = c.with("water 6 bottom 5;person a;rope r of a yards 9 age 1;");
        c.due(x, "DRY", x.plan(), -1, 9);
        x.dig(1);
        c.due(x, "not DRY", x.plan(), 0, 0);
        x = c.with("person a;");
        c.due(x, "no ROPE", x.plan(), -1, 9);
        x = c.with("person a dies 1;rope r of a yards 9 age 1;");
        c.due(x, "one is alive", x.plan(), 0, 0);
        x.pass(1);
        c.due(x, "nobody is alive", x.plan(), -1, 8);
        x = c.with("water 9 bottom 5;person a dies 1;");
        x.pass(1);
        c.due(x, "8 ahead of 9", x.plan(), -1, 8);
    }

    private static void planOfMany() {
        c.says("of more than 8 PIECES, too");
        WellHeirs x = c.with("water 60 bottom 99;person a;rope r of a yards 60 age 1;");
        for (int i = 1; i < 12; i++) x.cut(0, 5);
        c.due(x, "twelve of five YARDS each reach 49", x.plan(), -1, 9);
        x = c.with("water 49 bottom 99;person a;rope r of a yards 60 age 1;");
        for (int i = 1; i < 12; i++) x.cut(0, 5);
        c.due(x, "all twelve", x.plan(), 11, 0);
        c.due(x, "spread(11)", x.spread(11), 1, 0);
        c.due(x, "spread(10)", x.spread(10), 0, 0);
        x = c.with("water 45 bottom 99;person a;rope r of a yards 60 age 1;");
        for (int i = 1; i < 12; i++) x.cut(0, 5);
        c.due(x, "eleven", x.plan(), 10, 0);
        StringBuilder t = new StringBuilder(" bottom 99;");
        for (int i = 0; i < 8; i++) t.append("person p").append((char) ('a' + i)).append(";");
        x = c.with("water 5" + t + "rope r of pa yards 60 age 1;");
        for (int i = 1; i < 8; i++) x.cut(0, 5);
        c.due(x, "eight ROPES for eight", x.plan(), 0, 0);
        x.cut(0, 20);
        x.cut(8, 16);
        c.due(x, "a first of 5, one of 4, one of 16", x.plan(), 0, 0);
        x.knot(1, 9);
        c.due(x, "eight still", x.plan(), 0, 0);
        x.knot(1, 2);
        c.due(x, "seven, and one of 4 that is too short", x.plan(), -1, 9);
        x = c.with("water 5" + t + "rope r of pa yards 44 age 1;");
        for (int i = 1; i < 12; i++) x.cut(0, i < 4 ? 5 : 3);
        c.due(x, "four of 5, eight of 3", x.rope(0, 3), 5, 0);
        c.due(x, "four pairs", x.plan(), 4, 0);
        int[] most = {4, 5, 6, 7, 8, 8};
        for (int knots = 0; knots < most.length; knots++) c.due(x, "spread(" + knots + ")", x.spread(knots), most[knots], 0);
    }

    /** What was asked of one DEPTH leaves nothing in what is asked of another. */
    private static void planYearByYear() {
        c.says("so that all DRINK: the fewest KNOTS more");
        String rest = " bottom 20 sinks 1;person a;person b;rope r of a yards 7 age 1;rope s of a yards 6 age 1;rope t of a yards 3 age 1;rope u of a yards 2 age 1;";
        int[] plan = {0, 0, 0, 0, 0, 0, 0, 1, 2, -1};
        int[] alone = {2, 2, 2, 2, 2, 2, 2, 1, 0, 0, 0, 0, 0, 0, 0, 0, 0, 0, 0, 0};
        WellHeirs x = c.with("water 0" + rest);
        WellHeirs back = c.with("water 19" + rest.replace("sinks 1", "sinks 0 rain 16 by 1"));
        for (int year = 0; year < 20; year++) {
            int due = plan[Math.min(year, 9)];
            c.due(x, "PLAN, deeper to " + year, x.plan(), due, due < 0 ? 9 : 0);
            c.due(x, "SPREAD, deeper to " + year, x.spread(0), alone[year], 0);
            int risen = 19 - year;
            due = plan[Math.min(risen, 9)];
            c.due(back, "PLAN, up to " + risen, back.plan(), due, due < 0 ? 9 : 0);
            c.due(back, "SPREAD, up to " + risen, back.spread(0), alone[risen], 0);
            x.pass(1);
            back.pass(1);
        }
    }

    private static void spread() {
        c.says("SPREAD: with at most so many KNOTS more the most PEOPLE who can DRINK so.");
        c.says("SPREAD with so many KNOTS more (0 to 11) (5).");
        WellHeirs x = c.with("water 10 bottom 10;person a;person b;person d dies 1;person e;rope r of a yards 10 age 1;rope s of a yards 5 age 1;rope t of a yards 6 age 1;"
            + "rope u of a yards 4 age 1;rope v of a yards 4 age 1;rope w of a yards 4 age 1;");
        int[] most = {1, 2, 2, 3, 3, 3};
        for (int knots = 0; knots <= 11; knots++) c.due(x, "spread(" + knots + ")", x.spread(knots), most[Math.min(5, knots)], 0);
        for (int knots : new int[] {-1, 12, MIN, MAX}) c.due(x, "spread(" + knots + ")", x.spread(knots), -1, 5);
        x.pass(1);
        c.due(x, "three are alive", x.spread(11), 3, 0);
        x.dig(-1);
        c.due(x, "DRY", x.spread(11), 0, 0);
        x = c.with("person a;person b dies 1;rope r of a yards 1 age 1;rope s of a yards 1 age 1;rope t of a yards 1 age 1;");
        c.due(x, "not more than there are", x.spread(0), 2, 0);
        x.pass(1);
        c.due(x, "not the dead", x.spread(0), 1, 0);
        c.due("nobody", new WellHeirs().spread(0), 0);
        c.due("no ROPE", c.with("person a;").spread(11), 0);
    }

    private static void holds() {
        c.says("HOLDS: the odds that no KNOT of a ROPE SLIPS.");
        c.says("The FRACTION is HOLDS of a ROPE (2).");
        String pieces = "";
        long[] powers = {1, 16, 256, 4096};
        for (int knots = 0; knots <= 3; knots++) {
            pieces += " yards 1 age 1";
            WellHeirs x = c.with("person a;rope r of a" + pieces + " slips 15;rope s of a" + pieces + " slips 0;rope t of a" + pieces + " slips 1;rope u of a" + pieces
                + " slips 8;rope v of a" + pieces + " holy slips 12;rope w of a" + pieces + ";");
            c.fraction(x, "of 15", x.holds(0), 1, powers[knots]);
            c.fraction(x, "of 0", x.holds(1), 1, 1);
            c.fraction(x, "of 1", x.holds(2), knots == 0 ? 1 : knots == 1 ? 15 : knots == 2 ? 225 : 3375, powers[knots]);
            c.fraction(x, "of 8", x.holds(3), 1, 1L << knots);
            c.fraction(x, "of 12, HOLY", x.holds(4), 1, 1L << 2 * knots);
            c.fraction(x, "without", x.holds(5), 1, 1);
            for (int r : new int[] {-1, 6, 12, MIN, MAX}) c.due(x, "no such ROPE", x.holds(r), false, 2);
        }
        WellHeirs x = c.with("person a;rope r of a" + pieces + " slips 1;rope s of a" + pieces + " slips 15;rope t of a" + pieces + " slips 1;");
        x.knot(0, 2);
        c.fraction(x, "seven KNOTS of 1", x.holds(0), 170859375L, 268435456L);
        x.undo(0, 4);
        x.knot(0, 1);
        c.fraction(x, "seven KNOTS of 15", x.holds(0), 1, 268435456L);
    }

    private static void best() {
        c.says("BEST of a PERSON: the greatest HOLDS of those that it HOLDS and that reach DEPTH (of several the first ROPE).");
        c.says("BEST of a PERSON (2; 8: it does not DRINK).");
        String two = " yards 5 age 1 yards 5 age 1";
        WellHeirs x = c.with("water 9 bottom 9;person a;person b;rope r of a" + two + " slips 4;rope s of a" + two + " yards 5 age 1 slips 2;rope t of a" + two + " slips 3;"
            + "rope u of a yards 8 age 1;rope v of a" + two + " slips 3;rope w of b yards 9 age 1 slips 15;");
        c.due(x, "13 by 16, of two the first", x.best(0), 2, 0);
        x.lend(2, 1);
        c.due(x, "not what is lent", x.best(0), 4, 0);
        c.due(x, "without a KNOT", x.best(1), 5, 0);
        x.lend(4, 1);
        c.due(x, "196 by 256 is more than 12 by 16", x.best(0), 1, 0);
        x.lend(1, 1);
        c.due(x, "the only one that reaches", x.best(0), 0, 0);
        x.lend(5, 0);
        c.due(x, "what is borrowed", x.best(0), 5, 0);
        c.due(x, "of those it has borrowed", x.best(1), 2, 0);
        x.takeBack(5);
        x.lend(0, 1);
        c.due(x, "it does not DRINK", x.best(0), -1, 8);
        for (int p : new int[] {-1, 2, 8, MIN, MAX}) c.due(x, "no such PERSON", x.best(p), -1, 2);
        x.dig(-1);
        c.due(x, "DRY", x.best(1), -1, 8);
        x = c.with("water 3 bottom 9;person a dies 1;rope r of a yards 3 age 1;");
        c.due(x, "REACH as DEPTH", x.best(0), 0, 0);
        x.pass(1);
        c.due(x, "the dead do not DRINK", x.best(0), -1, 8);
        x = c.with("person a;rope r of a yards 5 age 1 yards 5 age 1 yards 5 age 1 slips 8;rope s of a" + two + " slips 12;");
        c.due(x, "a half by a half is a fourth: the first", x.best(0), 0, 0);
        x = c.with("person a;rope r of a" + two + " slips 12;rope s of a yards 5 age 1 yards 5 age 1 yards 5 age 1 slips 8;");
        c.due(x, "the other way round, too", x.best(0), 0, 0);
    }

    private static void drawing() {
        c.says("DRAWING takes a PERSON who DRINKS two times DEPTH and 1, and 3 for each KNOT, minutes, with its ROPE of the fewest KNOTS that reaches.");
        c.says("How many minutes DRAWING takes a PERSON (2; 8: it does not DRINK).");
        WellHeirs x = c.with("person a;person b;person d;rope r of a yards 1 age 1;rope s of b" + FOUR + ";rope t of b" + FOUR + ";");
        x.knot(1, 2);
        c.due(x, "DEPTH 0, no KNOT", x.drawing(0), 1, 0);
        c.due(x, "seven KNOTS", x.drawing(1), 22, 0);
        c.due(x, "it does not DRINK", x.drawing(2), -1, 8);
        for (int p : new int[] {-1, 3, 8, MIN, MAX}) c.due(x, "no such PERSON", x.drawing(p), -1, 2);
        String well = "water # bottom 999;person a;person b;rope r of a yards 20 age 1;rope s of a yards 20 age 1 yards 20 age 1 yards 20 age 1;rope t of a yards 30 age 1 yards 10 age 1;"
            + "rope u of b yards 30 age 1;";
        int[][] cases = {{20, 41}, {21, 46}, {39, 82}, {40, 87}, {58, 123}};
        for (int[] one : cases) {
            x = c.with(well.replace("#", String.valueOf(one[0])));
            c.due(x, "DEPTH " + one[0], x.drawing(0), one[1], 0);
        }
        x = c.with(well.replace("#", "59"));
        c.due(x, "none reaches", x.drawing(0), -1, 8);
        x = c.with(well.replace("#", "25"));
        x.lend(3, 0);
        c.due(x, "with what is borrowed", x.drawing(0), 51, 0);
        c.due(x, "not with what is lent", x.drawing(1), -1, 8);
    }

    private static WellHeirs eight() {
        StringBuilder t = new StringBuilder("water 5 bottom 9;");
        for (int i = 0; i < 8; i++) t.append("person p").append((char) ('a' + i)).append(";");
        for (int i = 0; i < 6; i++) {
            t.append("rope r").append((char) ('a' + i)).append(" of p").append((char) ('a' + i));
            for (int k = 0; k <= i % 3; k++) t.append(" yards 40 age 1");
            t.append(";");
        }
        WellHeirs x = c.with(t.toString());
        x.sell(0, 9, 6);
        x.sell(0, 9, 7);
        return x;
    }

    private static void queue() {
        c.says("A QUEUE is a row of PEOPLE in a TRAY who all DRINK, none twice: WAITING: minutes that all wait till they begin, together; "
            + "LEAST WAITING: of the best order of these.");
        c.says("WAITING of so many in a TRAY (1 to 8) (1; 3; 4; 5: so many, a number that is no PERSON, or twice; 9: one does not DRINK; in this order).");
        c.says("LEAST WAITING (likewise).");
        int[] takes = {11, 14, 17, 11, 14, 17, 11, 11};
        int[][] rows = {{7, 6, 5, 4, 3, 2, 1, 0}, {0, 1, 2, 3, 4, 5, 6, 7}, {5, 2, 1, 4, 0, 3, 6, 7}, {2, 0, 1, 7, 5, 6, 3, 4}};
        for (int sort = 0; sort <= 3; sort++) {
            WellHeirs x = eight();
            x.tray(sort, sort, 8);
            int[] row = rows[sort];
            for (int i = 0; i < 8; i++) x.write(sort, i, row[i]);
            int begin = 0;
            int together = 0;
            for (int many = 1; many <= 8; many++) {
                together += begin;
                begin += takes[row[many - 1]];
                c.due(x, "waiting of " + many, x.waiting(sort, many), together, 0);
                c.due(x, "at best of " + many, x.leastWaiting(sort, many), atBest(takes, row, many), 0);
            }
            c.due(x, "so many: 0", x.waiting(sort, 0), -1, 5);
            c.due(x, "so many: 0", x.leastWaiting(sort, 0), -1, 5);
            c.due(x, "more than it has", x.waiting(sort, 9), -1, 4);
            c.due(x, "more than it has", x.leastWaiting(sort, 9), -1, 4);
            for (int i = 0; i < 8; i++) c.due(x, "the TRAY stays", x.read(sort, i), row[i], 0);
        }
    }

    /** The least first: how often each one's minutes are waited for. */
    private static int atBest(int[] takes, int[] row, int many) {
        int sum = 0;
        for (int i = 0; i < many; i++) {
            int behind = 0;
            for (int j = 0; j < many; j++) {
                if (takes[row[j]] > takes[row[i]] || takes[row[j]] == takes[row[i]] && j > i) behind++;
            }
            sum += takes[row[i]] * behind;
        }
        return sum;
    }

    private static void queueRefused() {
        c.says("5: so many, a number that is no PERSON, or twice; 9: one does not DRINK; in this order");
        WellHeirs x = eight();
        x.tray(0, 3, 9);
        for (int i = 0; i < 9; i++) x.write(0, i, i % 8);
        c.due(x, "eight of nine", x.waiting(0, 8) > 0, true, 0);
        c.due(x, "nine", x.waiting(0, 9), -1, 5);
        c.due(x, "nine", x.leastWaiting(0, 9), -1, 5);
        c.due(x, "ten of nine", x.waiting(0, 10), -1, 4);
        c.due(x, "ten of nine", x.leastWaiting(0, 10), -1, 4);
        for (int many : new int[] {0, -1, MIN}) {
            c.due(x, "waiting(0," + many + ")", x.waiting(0, many), -1, 5);
            c.due(x, "leastWaiting(0," + many + ")", x.leastWaiting(0, many), -1, 5);
        }
        c.due(x, "the most", x.waiting(0, MAX), -1, 4);
        for (long number : new long[] {8, -1, 1L << 32, (1L << 32) + 2, Long.MIN_VALUE, Long.MAX_VALUE, 1L << 63}) {
            x.write(0, 2, number);
            c.due(x, "no PERSON is " + number, x.waiting(0, 3), -1, 5);
            c.due(x, "no PERSON is " + number, x.leastWaiting(0, 3), -1, 5);
            c.due(x, "ahead of it all is well", x.waiting(0, 2), 11, 0);
        }
        for (int twice : new int[] {0, 1}) {
            x.write(0, 2, twice);
            c.due(x, "twice", x.waiting(0, 3), -1, 5);
            c.due(x, "twice", x.leastWaiting(0, 3), -1, 5);
        }
        x.lend(7, 0);
        x.write(0, 2, 0);
        x.write(0, 1, 7);
        c.due(x, "one does not DRINK, and one twice behind: 5 ahead of 9", x.waiting(0, 3), -1, 5);
        c.due(x, "one does not DRINK", x.waiting(0, 2), -1, 9);
        c.due(x, "one does not DRINK", x.leastWaiting(0, 2), -1, 9);
        x.write(0, 0, 7);
        c.due(x, "the first does not DRINK", x.waiting(0, 1), -1, 9);
        c.due(x, "5 ahead of 9", x.waiting(0, 2), -1, 5);
        x.tray(1, 0, 0);
        c.due(x, "an empty TRAY has none", x.waiting(1, 1), -1, 4);
        c.due(x, "none of an empty TRAY", x.waiting(1, 0), -1, 5);
        c.due(x, "a TRAY that is MISSING", x.leastWaiting(2, 0), -1, 3);
        c.due(x, "no such TRAY", x.leastWaiting(4, 0), -1, 1);
        x = c.with("person a;rope r of a yards 1 age 1;");
        x.tray(0, 0, 1);
        c.due(x, "one alone waits for nobody", x.waiting(0, 1), 0, 0);
        c.due(x, "one alone waits for nobody", x.leastWaiting(0, 1), 0, 0);
        x.write(0, 0, 1);
        c.due(x, "the next one is none", x.waiting(0, 1), -1, 5);
    }

    // ---- MARKS

    private static void marks() {
        c.says("MARKS, at most 3: the WELL with all that became of it, and the LAW are kept as they are; all is taken back to the latest MARK, which is gone then.");
        c.says("A MARK more: how many there are (7).");
        c.says("All is taken back to the latest MARK: how many there are left (8).");
        WellHeirs x = new WellHeirs();
        c.due(x, "none", x.back(), -1, 8);
        for (int i = 1; i <= 3; i++) {
            c.due(x, "the " + i + ". MARK", x.mark(), i, 0);
            x.dig(10);
        }
        c.due(x, "a fourth", x.mark(), -1, 7);
        c.due(x, "BOTTOM", x.many(5), 30, 0);
        for (int i = 2; i >= 0; i--) {
            c.due(x, "left", x.back(), i, 0);
            c.due(x, "BOTTOM", x.many(5), 10 * i, 0);
        }
        c.due(x, "none is left", x.back(), -1, 8);
        x.dig(5);
        c.due(x, "a MARK again", x.mark(), 1, 0);
        x.dig(5);
        c.due(x, "a second", x.mark(), 2, 0);
        c.due(x, "back", x.back(), 1, 0);
        c.due(x, "a second again", x.mark(), 2, 0);
        x.dig(1);
        x.back();
        c.due(x, "BOTTOM", x.many(5), 10, 0);
        x.back();
        c.due(x, "BOTTOM", x.many(5), 5, 0);
    }

    private static void marksKeepAll() {
        c.says("the WELL with all that became of it, and the LAW are kept as they are");
        Check.Make make = () -> {
            WellHeirs x = c.with("water 50 bottom 99 sinks 2 rain 9 by 4;person a dies 9;person b of a;person d of a;rope r of a yards 9 age 4 yards 3 age 9 slips 3;"
                + "rope s of b yards 9 age 1 holy;rope t of b yards 2 age 2;flood 3 to 40 by 3;", "if knots<2 give each;");
            x.seed(1234);
            x.lend(1, 0);
            x.pass(2);
            x.cut(0, 4);
            x.dig(-3);
            return x;
        };
        WellHeirs kept = make.one();
        kept.mark();
        WellHeirs changed = make.one();
        changed.mark();
        changed.pass(30);
        changed.takeBack(1);
        changed.knot(0, 3);
        changed.dig(50);
        Check.law(changed, "if holy give well;if holy give well;");
        Check.well(changed, "water 1 bottom 2;person z;rope y of z yards 1 age 1;flood 0 to 5 by 1;");
        Check.law(changed, "if year=0 give well;");
        changed.seed(5);
        c.due(changed, "back", changed.back(), 0, 0);
        kept.back();
        c.alike("all is as it was", Readout.withoutTexts(changed), Readout.withoutTexts(kept));
        String four = " yards 1 age 1 yards 2 age 2 yards 3 age 3 yards 4 age 4;";
        WellHeirs x = c.with("person a;rope r of a" + four + "rope s of a" + four + "rope t of a yards 9 age 9;");
        x.knot(0, 1);
        x.mark();
        x.undo(0, 7);
        x.knot(0, 2);
        c.due(x, "another eighth PIECE", x.piece(0, 7, 0), 9, 0);
        x.undo(0, 4);
        x.mark();
        x.back();
        c.due(x, "back", x.back(), 0, 0);
        pieces(x, 0, 1, 1, 2, 2, 3, 3, 4, 4, 1, 1, 2, 2, 3, 3, 4, 4);
        x = c.with("person a;rope r of a yards 5 age 1;");
        x.tray(0, 0, 2);
        x.mark();
        x.write(0, 1, 9);
        x.tray(1, 1, 1);
        x.share(0);
        Check.law(x, "if !");
        Check.put(x, "person q;person p;  ");
        c.due(x, "back", x.back(), 0, 0);
        c.due(x, "TRAYS stay", x.read(0, 1), 9, 0);
        c.due(x, "TRAYS stay", x.read(1, 0), 0, 0);
        c.due("the FRACTION stays", x.top(), 1);
        c.due("the FAULT stays", x.fault(0), 1);
        c.due(x, "the tape stays", x.well(18), 2, 0);
    }

    private static void fractions() {
        c.says("FRACTIONS are told by top() and bottom() without a common divisor, the bottom above 0; 0 is 0 by 1.");
        c.says("The top of the FRACTION told latest.");
        c.says("Its bottom, above 0.");
        WellHeirs x = c.with("person a;person b;person d;rope r of a yards 84 age 1;rope s of b yards 126 age 1;");
        c.due("ahead of any", x.top(), 0);
        c.due("ahead of any", x.bottom(), 1);
        c.fraction(x, "84 by 210", x.share(0), 2, 5);
        c.fraction(x, "126 by 210", x.share(1), 3, 5);
        c.fraction(x, "0 by 210", x.share(2), 0, 1);
        c.fraction(x, "20 by 20", x.odds(0, 0, 0, 20), 1, 1);
        c.fraction(x, "0 by 20", x.odds(2, 0, 0, 20), 0, 1);
        c.fraction(x, "no KNOT", x.holds(0), 1, 1);
        c.fraction(x, "126 by 210", x.share(1), 3, 5);
        x.share(3);
        x.odds(0, 0, 0, 21);
        x.holds(9);
        c.due("what is refused tells none", x.top(), 3);
        c.due("what is refused tells none", x.bottom(), 5);
        Check.well(x, "person a;");
        c.due("a new WELL leaves it", x.top(), 3);
    }

    private static void newObject() {
        c.says("TRAYS are MISSING, no PEOPLE, ROPES, WATER 0, BOTTOM 0, YEAR 0, seed 0, no LAW, MARKS, an empty tape; STATUS 0, the FRACTION 0 by 1.");
        WellHeirs x = new WellHeirs();
        c.due("STATUS", x.status(), 0);
        c.due("top", x.top(), 0);
        c.due("bottom", x.bottom(), 1);
        for (int t = 0; t < 4; t++) c.due(x, "MISSING", x.read(t, 0), -1, 3);
        for (int what = 0; what < 7; what++) c.due(x, "many(" + what + ")", x.many(what), 0, 0);
        c.due(x, "no PEOPLE", x.person(0, 2), -1, 2);
        c.due(x, "no ROPES", x.rope(0, 2), -1, 2);
        c.due(x, "no MARKS", x.back(), -1, 8);
        c.due(x, "an empty tape", x.well(1), -1, 5);
        c.due("an empty tape", x.feed(0, 0, 0, 0, 0), 20);
        c.due(x, "WATER 0 in each YEAR", x.depth(100), 0, 0);
        c.due(x, "a YEAR goes by", x.pass(1), 1, 0);
        c.due(x, "without a draw", x.many(6), 0, 0);
    }

    private static void latest() {
        c.says("The STATUS of the latest call that has one.");
        c.says("status(), fault(), feed(), top(), bottom() have none.");
        WellHeirs x = new WellHeirs();
        x.tray(9, 0, 0);
        for (int i = 0; i < 45; i++) x.feed(0x3b000000, 0, 0, 0, 0);
        x.feed(0, 0, 0, 0, 0);
        x.fault(0);
        x.fault(9);
        x.top();
        x.bottom();
        x.status();
        c.due("the latest", x.status(), 1);
        x.well(900);
        c.due("10", x.status(), 10);
        x.fault(0);
        c.due("still", x.status(), 10);
        x.who();
        c.due("0", x.status(), 0);
        c.due("NONE", WellHeirs.NONE, -1);
    }

    private static void lastCalls() {
        c.says("An object is used for at most 512 calls after it has been made; what later calls answer is free.");
        WellHeirs x = new WellHeirs();
        int calls = 0;
        for (; calls < 300; calls++) x.mark();
        x.back();
        calls++;
        for (; calls < 509; calls++) x.dig(calls % 2 == 0 ? 9 : -4);
        c.due("the 510th", x.mark(), 3);
        c.due("the 511th", x.mark(), -1);
        c.due("the 512th", x.status(), 7);
    }

    public static void main(String[] args) {
        newObject();
        latest();
        fractions();
        knot();
        undo();
        cut();
        sell();
        lend();
        dig();
        led();
        share();
        heirloom();
        yardsOf();
        needed();
        plan();
        planOfMany();
        planYearByYear();
        spread();
        holds();
        best();
        drawing();
        queue();
        queueRefused();
        marks();
        marksKeepAll();
        lastCalls();
        c.end("HandBoundariesTest");
    }
}
