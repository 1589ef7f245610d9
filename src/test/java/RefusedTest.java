/**
 * Each kind of refusal of each call, with its STATUS; where two kinds are due, the one that is asked first; and that a
 * call that is refused changes nothing but STATUS.
 */
public final class RefusedTest {
    private static final Check c = new Check();
    private static final int MAX = Integer.MAX_VALUE;
    private static final int MIN = Integer.MIN_VALUE;
    private static final String WELL = "water 20 bottom 60 sinks 1 rain 5 by 2;person ann dies 10;person bob of ann;person cid of ann dies 30;person dot;person eve dies 1;"
        + "rope ra of ann yards 15 age 50 yards 10 age 5 slips 4;rope rb of bob yards 19 age 7;rope rc of dot yards 20 age 100 yards 21 age 99 holy slips 2;"
        + "rope rd of ann yards 3 age 1;rope re of cid yards 9 age 2 yards 9 age 3;rope rf of ann yards 2 age 2;flood 3 to 4 by 6;";
    private static final String LAW = "if holy or knots>0 give each;if yards<5 give youngest;";

    /** ann and dot DRINK, bob has lent rope 1 to cid, eve is dead, rope 2 is HOLY, rope 5 is GONE, tray 3 is MISSING. */
    private static WellHeirs rich() {
        WellHeirs x = new WellHeirs();
        Check.well(x, WELL);
        Check.law(x, LAW);
        x.seed(1234);
        x.mark();
        x.pass(2);
        x.lend(1, 2);
        x.dig(3);
        x.knot(3, 5);
        x.mark();
        x.tray(0, 2, 4);
        x.tray(1, 2, 2);
        x.tray(2, 0, 3);
        x.write(0, 0, 3);
        x.write(0, 2, 1);
        x.write(0, 3, 3);
        x.write(1, 1, 9);
        Check.law(x, "if holy give;");
        x.share(0);
        Check.put(x, "person q;rope y of q yards 7 age 7;     ");
        return x;
    }

    /** As rich, with 12 ROPES. */
    private static WellHeirs full() {
        WellHeirs x = rich();
        for (int i = 0; i < 7; i++) x.cut(0, 1);
        return x;
    }

    /** As rich, with 3 MARKS. */
    private static WellHeirs marked() {
        WellHeirs x = rich();
        x.mark();
        return x;
    }

    /** As rich, with an empty tape. */
    private static WellHeirs untaped() {
        WellHeirs x = rich();
        Check.law(x, "if holy give;");
        return x;
    }

    /** Two ROPES of 6 PIECES in all and one of 4, all of one PERSON; the first two of another one. */
    private static WellHeirs knotted() {
        String four = " yards 1 age 1 yards 1 age 1 yards 1 age 1 yards 1 age 1";
        WellHeirs x = c.with("person a;person b;rope r of a" + four + ";rope s of a" + four + ";rope t of b yards 1 age 1;rope u of a yards 1 age 1 holy;rope v of a yards 1 age 1;"
            + "rope w of a yards 1 age 1 yards 1 age 1 yards 1 age 1 yards 1 age 1 holy;");
        x.knot(0, 1);
        x.lend(4, 1);
        return x;
    }

    private static WellHeirs dead() {
        WellHeirs x = c.with("person a dies 1;person b dies 1;rope r of a yards 9 age 1;");
        x.pass(1);
        return x;
    }

    private static WellHeirs poor() {
        return c.with("water 5 bottom 9;person a;person b of a;");
    }

    private static WellHeirs late() {
        WellHeirs x = rich();
        for (int i = 0; i < 3; i++) x.pass(50);
        return x;
    }

    private static void prepared() {
        c.at("the objects of this test");
        WellHeirs x = rich();
        c.due("who DRINKS", x.who(), 9);
        c.due("YEAR", x.many(3), 2);
        c.due("ROPES", x.many(1), 5);
        c.due("RULES", x.many(2), 2);
        c.due("FAULT", x.fault(0), 2);
        c.due("its place", x.fault(1), 12);
        c.due("FRACTION", x.bottom() > 1, true);
        c.due("one reads otherwise than another", Readout.of(rich()).equals(Readout.of(full())), false);
        c.due("YEAR", late().many(3), 152);
        c.due("ROPES", full().many(1), 12);
        c.due("PIECES", knotted().rope(0, 2), 8);
        c.alike("two alike are read out alike", Readout.of(rich()), Readout.of(rich()));
    }

    private static void trays() {
        c.says("STATUS of a call is the first of these that holds: 1 no such TRAY (or sort).");
        Check.Make make = RefusedTest::rich;
        for (int bad : new int[] {-1, 4, MIN, MAX}) {
            c.denied("tray(" + bad + ",0,1)", make, x -> x.tray(bad, 0, 1), 1);
            c.denied("tray(0," + bad + ",1)", make, x -> x.tray(0, bad, 1), 1);
            c.denied("write(" + bad + ",0,1)", make, x -> x.write(bad, 0, 1), 1);
            c.refused("read(" + bad + ",0)", make, x -> x.read(bad, 0), 1);
            c.denied("pour(" + bad + ",0,0,0,1)", make, x -> x.pour(bad, 0, 0, 0, 1), 1);
            c.denied("pour(0,0," + bad + ",0,1)", make, x -> x.pour(0, 0, bad, 0, 1), 1);
            c.refused("waiting(" + bad + ",1)", make, x -> x.waiting(bad, 1), 1);
            c.refused("leastWaiting(" + bad + ",1)", make, x -> x.leastWaiting(bad, 1), 1);
        }
        c.denied("1 ahead of 5", make, x -> x.tray(4, 0, 61), 1);
        c.denied("1 ahead of 6", make, x -> x.tray(4, 0, -1), 1);
        c.denied("a sort, ahead of 5", make, x -> x.tray(0, 4, 61), 1);
        c.denied("a sort, ahead of 6", make, x -> x.tray(0, -1, -1), 1);
        c.denied("1 ahead of 4", make, x -> x.write(4, -1, 1), 1);
        c.refused("1 ahead of 4", make, x -> x.read(-1, 99), 1);
        c.refused("1 ahead of 4 and 5", make, x -> x.waiting(4, 99), 1);
        c.refused("1 ahead of 5", make, x -> x.leastWaiting(-1, 0), 1);
        c.says("3 the TRAY is MISSING. 4 a place that the TRAY has not, or too few numbers.");
        c.denied("write to a missing one", make, x -> x.write(3, 0, 1), 3);
        c.refused("read of a missing one", make, x -> x.read(3, 0), 3);
        c.denied("pour from a missing one", make, x -> x.pour(3, 0, 0, 0, 1), 3);
        c.denied("pour to a missing one", make, x -> x.pour(0, 0, 3, 0, 1), 3);
        c.refused("a queue in a missing one", make, x -> x.waiting(3, 1), 3);
        c.refused("a queue in a missing one", make, x -> x.leastWaiting(3, 1), 3);
        c.denied("3 ahead of 4", make, x -> x.write(3, -1, 1), 3);
        c.refused("3 ahead of 4", make, x -> x.read(3, 99), 3);
        c.refused("3 ahead of 4 and 5", make, x -> x.waiting(3, 99), 3);
        c.refused("3 ahead of 5", make, x -> x.leastWaiting(3, 0), 3);
        for (int place : new int[] {-1, 4, MIN, MAX}) {
            c.denied("write(0," + place + ",1)", make, x -> x.write(0, place, 1), 4);
            c.refused("read(0," + place + ")", make, x -> x.read(0, place), 4);
            c.denied("pour(0," + place + ",1,0,1)", make, x -> x.pour(0, place, 1, 0, 1), 4);
            c.denied("pour(1,0,0," + place + ",1)", make, x -> x.pour(1, 0, 0, place, 1), 4);
        }
        c.denied("pour of too few", make, x -> x.pour(1, 0, 0, 0, 3), 4);
        c.denied("pour to too few", make, x -> x.pour(0, 0, 1, 0, 3), 4);
        c.refused("a queue of too few", make, x -> x.waiting(0, 5), 4);
        c.refused("a queue of too few", make, x -> x.leastWaiting(0, 5), 4);
        c.says("6 below 0 (a TRAY's length).");
        for (int many : new int[] {61, MAX}) c.denied("tray(0,0," + many + ")", make, x -> x.tray(0, 0, many), 5);
        for (int many : new int[] {-1, MIN}) {
            c.denied("tray(0,0," + many + ")", make, x -> x.tray(0, 0, many), 6);
            c.denied("tray(3,0," + many + ")", make, x -> x.tray(3, 0, many), 6);
            c.denied("pour of " + many, make, x -> x.pour(0, 0, 1, 0, many), 6);
            c.denied("6 ahead of 4", make, x -> x.pour(0, 9, 1, 9, many), 6);
        }
        c.says("11 TRAYS of unlike sorts.");
        c.denied("pour of unlike sorts", make, x -> x.pour(0, 0, 2, 0, 1), 11);
        c.denied("pour of unlike sorts", make, x -> x.pour(2, 0, 1, 0, 0), 11);
        c.denied("11 ahead of 6", make, x -> x.pour(0, 0, 2, 0, -1), 11);
        c.denied("11 ahead of 4", make, x -> x.pour(0, 9, 2, 9, 9), 11);
        c.denied("3 ahead of 11", make, x -> x.pour(3, 0, 2, 0, 1), 3);
    }

    private static void texts() {
        c.says("A call with another STATUS than 0 gives NONE, or false, and changes nothing but STATUS (but well(), law() with 10 the tape, and what fault() tells).");
        Check.Make make = RefusedTest::rich;
        for (int n : new int[] {-1, 41, 900, 901, MIN, MAX}) {
            c.refused("well(" + n + ")", make, x -> x.well(n), 5);
            c.refused("law(" + n + ")", make, x -> x.law(n), 5);
        }
        Check.Make bad = () -> {
            WellHeirs x = rich();
            Check.put(x, "!".repeat(280));
            return x;
        };
        c.refused("5 ahead of 10", bad, x -> x.well(321), 5);
        c.refused("above 300: 5 ahead of 10", bad, x -> x.law(301), 5);
        c.refused("above 300: 5 ahead of 10", bad, x -> x.law(320), 5);
        Check.Make untaped = RefusedTest::untaped;
        String[] wells = {"!", "person a;person a;", "person a;rope r of a yards 0 age 1;", "water 1 bottom 1 sinks 1;flood 0 to 9 by 1;water", "person a", "person a;person b of q;",
            "water 999 bottom 0;person a;rope r of a yards 9 age 9;rope s of a"};
        for (String text : wells) c.faulty("well " + text, untaped, x -> Check.well(x, text));
        String[] laws = {"!", "if holy give each;if", "if holy give each;if yards<1000", "if holy give eldest;if not not not not not not holy", "if year>0 give well;if year"};
        for (String text : laws) c.faulty("law " + text, untaped, x -> Check.law(x, text));
        c.says("10 a FAULT.");
        WellHeirs x = rich();
        c.due(x, "a text with a FAULT", x.well(34), -1, 10);
        c.due(x, "the tape is empty then", x.well(1), -1, 5);
        c.says("Twenty bytes come behind those on the tape, the highest of each int first: how many it has; NONE if there would be more than 900.");
        Check.Make taped = () -> {
            WellHeirs y = rich();
            for (int i = 0; i < 43; i++) y.feed(0x70657273, 0x6f6e2070, 0x20202020 + 0x01010101 * (0x41 + i % 26), 0x20202020, 0x2020203b);
            return y;
        };
        x = taped.one();
        c.due("a full tape", x.feed(1, 2, 3, 4, 5), -1);
        c.alike("all else behind feed", Readout.of(x), Readout.of(taped.one()));
    }

    private static void toldOfTheWell() {
        c.says("2 no such PERSON, ROPE (a GONE one, too).");
        Check.Make make = RefusedTest::rich;
        for (int bad : new int[] {-1, 5, 8, MIN, MAX}) {
            c.refused("person(" + bad + ",0)", make, x -> x.person(bad, 0), 2);
            c.refused("2 ahead of 5", make, x -> x.person(bad, 9), 2);
            c.refused("heirs(" + bad + ")", make, x -> x.heirs(bad), 2);
            c.refused("drinks(" + bad + ")", make, x -> x.drinks(bad), 2);
            c.refused("thirst(" + bad + ")", make, x -> x.thirst(bad), 2);
            c.denied("odds(" + bad + ",0,0,1)", make, x -> x.odds(bad, 0, 0, 1), 2);
            c.denied("2 ahead of 5", make, x -> x.odds(bad, -1, -1, 0), 2);
            c.denied("share(" + bad + ")", make, x -> x.share(bad), 2);
            c.refused("heirloom(" + bad + ")", make, x -> x.heirloom(bad), 2);
            c.refused("best(" + bad + ")", make, x -> x.best(bad), 2);
            c.refused("drawing(" + bad + ")", make, x -> x.drawing(bad), 2);
            c.refused("sell(0,1," + bad + ")", make, x -> x.sell(0, 1, bad), 2);
            c.refused("2 ahead of 5", make, x -> x.sell(0, 0, bad), 2);
            c.refused("2 ahead of 9", make, x -> x.sell(2, 1, bad), 2);
            c.refused("lend(0," + bad + ")", make, x -> x.lend(0, bad), 2);
            c.refused("2 ahead of 9", make, x -> x.lend(1, bad), 2);
        }
        for (int bad : new int[] {-1, 5, 6, 11, 12, MIN, MAX}) {
            c.refused("rope(" + bad + ",0)", make, x -> x.rope(bad, 0), 2);
            c.refused("2 ahead of 5", make, x -> x.rope(bad, 9), 2);
            c.refused("piece(" + bad + ",0,0)", make, x -> x.piece(bad, 0, 0), 2);
            c.refused("2 ahead of 5", make, x -> x.piece(bad, -1, 9), 2);
            c.refused("owner(" + bad + ",0)", make, x -> x.owner(bad, 0), 2);
            c.refused("2 ahead of 5", make, x -> x.owner(bad, 101), 2);
            c.refused("led(" + bad + ",0)", make, x -> x.led(bad, 0), 2);
            c.refused("2 ahead of 5", make, x -> x.led(bad, -1), 2);
            c.denied("holds(" + bad + ")", make, x -> x.holds(bad), 2);
            c.refused("undo(" + bad + ",1)", make, x -> x.undo(bad, 1), 2);
            c.refused("2 ahead of 5", make, x -> x.undo(bad, 0), 2);
            c.refused("cut(" + bad + ",1)", make, x -> x.cut(bad, 1), 2);
            c.refused("2 ahead of 5", make, x -> x.cut(bad, 0), 2);
            c.refused("sell(" + bad + ",1,1)", make, x -> x.sell(bad, 1, 1), 2);
            c.refused("2 ahead of 5 and 9", make, x -> x.sell(bad, 0, 4), 2);
            c.refused("lend(" + bad + ",1)", make, x -> x.lend(bad, 1), 2);
            c.refused("2 ahead of 9", make, x -> x.lend(bad, 4), 2);
            c.refused("takeBack(" + bad + ")", make, x -> x.takeBack(bad), 2);
            c.refused("knot(" + bad + ",0)", make, x -> x.knot(bad, 0), 2);
            c.refused("knot(0," + bad + ")", make, x -> x.knot(0, bad), 2);
            c.refused("knot(" + bad + "," + bad + ")", make, x -> x.knot(bad, bad), 2);
        }
        c.refused("2 ahead of 7", RefusedTest::full, x -> x.undo(12, 1), 2);
        c.refused("2 ahead of 7", RefusedTest::full, x -> x.cut(12, 1), 2);
        c.refused("2 ahead of 7", RefusedTest::full, x -> x.sell(0, 1, 5), 2);
        c.denied("2 ahead of 8", RefusedTest::poor, x -> x.share(2), 2);
        c.refused("2 ahead of 8", RefusedTest::poor, x -> x.heirloom(2), 2);
    }

    private static void numbersThatCannotBe() {
        c.says("5 a number that can't be.");
        Check.Make make = RefusedTest::rich;
        for (int bad : new int[] {-1, MIN, MAX}) {
            c.refused("many(" + bad + ")", make, x -> x.many(bad), 5);
            c.refused("person(0," + bad + ")", make, x -> x.person(0, bad), 5);
            c.refused("rope(0," + bad + ")", make, x -> x.rope(0, bad), 5);
            c.refused("piece(0," + bad + ",0)", make, x -> x.piece(0, bad, 0), 5);
            c.refused("piece(0,0," + bad + ")", make, x -> x.piece(0, 0, bad), 5);
            c.denied("seed(" + bad + ")", make, x -> x.seed(bad), 5);
            c.refused("pass(" + bad + ")", make, x -> x.pass(bad), 5);
            c.refused("depth(" + bad + ")", make, x -> x.depth(bad), 5);
            c.refused("whoThen(" + bad + ")", make, x -> x.whoThen(bad), 5);
            c.refused("owner(0," + bad + ")", make, x -> x.owner(0, bad), 5);
            c.refused("last(" + bad + ")", make, x -> x.last(bad), 5);
            c.denied("odds(0," + bad + ",0,1)", make, x -> x.odds(0, bad, 0, 1), 5);
            c.denied("odds(0,0," + bad + ",1)", make, x -> x.odds(0, 0, bad, 1), 5);
            c.denied("odds(0,0,0," + bad + ")", make, x -> x.odds(0, 0, 0, bad), 5);
            c.refused("undo(0," + bad + ")", make, x -> x.undo(0, bad), 5);
            c.refused("cut(0," + bad + ")", make, x -> x.cut(0, bad), 5);
            c.refused("sell(0," + bad + ",1)", make, x -> x.sell(0, bad, 1), 5);
            c.refused("led(0," + bad + ")", make, x -> x.led(0, bad), 5);
            c.refused("spread(" + bad + ")", make, x -> x.spread(bad), 5);
        }
        c.refused("many(7)", make, x -> x.many(7), 5);
        c.refused("person(0,5)", make, x -> x.person(0, 5), 5);
        c.refused("rope(0,8)", make, x -> x.rope(0, 8), 5);
        c.refused("piece(0,2,0)", make, x -> x.piece(0, 2, 0), 5);
        c.refused("piece(0,0,2)", make, x -> x.piece(0, 0, 2), 5);
        c.denied("seed(10000)", make, x -> x.seed(10000), 5);
        c.refused("pass(0)", make, x -> x.pass(0), 5);
        c.refused("pass(51)", make, x -> x.pass(51), 5);
        c.refused("above 200: pass(49)", RefusedTest::late, x -> x.pass(49), 5);
        c.refused("above 200: depth(49)", RefusedTest::late, x -> x.depth(49), 5);
        c.refused("above 200: whoThen(49)", RefusedTest::late, x -> x.whoThen(49), 5);
        c.refused("above 200: owner(0,49)", RefusedTest::late, x -> x.owner(0, 49), 5);
        c.denied("above 200: odds(0,49,0,1)", RefusedTest::late, x -> x.odds(0, 49, 0, 1), 5);
        c.refused("depth(101)", make, x -> x.depth(101), 5);
        c.refused("whoThen(101)", make, x -> x.whoThen(101), 5);
        c.refused("owner(0,101)", make, x -> x.owner(0, 101), 5);
        c.refused("last(2)", make, x -> x.last(2), 5);
        c.refused("5 ahead of 8", RefusedTest::poor, x -> x.last(2), 5);
        c.denied("odds(0,101,0,1)", make, x -> x.odds(0, 101, 0, 1), 5);
        c.denied("odds(0,0,9990,11)", make, x -> x.odds(0, 0, 9990, 11), 5);
        c.denied("odds(0,0,0,0)", make, x -> x.odds(0, 0, 0, 0), 5);
        c.denied("odds(0,0,0,21)", make, x -> x.odds(0, 0, 0, 21), 5);
        c.refused("undo(0,0)", make, x -> x.undo(0, 0), 5);
        c.refused("undo(0,2)", make, x -> x.undo(0, 2), 5);
        c.refused("cut(0,0)", make, x -> x.cut(0, 0), 5);
        c.refused("cut(0,25)", make, x -> x.cut(0, 25), 5);
        c.refused("sell(0,0,1)", make, x -> x.sell(0, 0, 1), 5);
        c.refused("sell(0,26,1)", make, x -> x.sell(0, 26, 1), 5);
        for (int bad : new int[] {0, 100, -100, MIN, MAX}) c.refused("dig(" + bad + ")", make, x -> x.dig(bad), 5);
        c.refused("led(0,25)", make, x -> x.led(0, 25), 5);
        c.refused("yardsOf(-1,3)", make, x -> x.yardsOf(-1, 3), 5);
        c.refused("yardsOf(4,3)", make, x -> x.yardsOf(4, 3), 5);
        c.refused("yardsOf(-2,-1)", make, x -> x.yardsOf(-2, -1), 5);
        c.refused("spread(12)", make, x -> x.spread(12), 5);
        for (int many : new int[] {0, -1, MIN}) {
            c.refused("waiting(0," + many + ")", make, x -> x.waiting(0, many), 5);
            c.refused("leastWaiting(0," + many + ")", make, x -> x.leastWaiting(0, many), 5);
        }
        c.refused("one twice, and one does not DRINK", make, x -> x.waiting(0, 4), 5);
        c.refused("one twice, and one does not DRINK", make, x -> x.leastWaiting(0, 4), 5);
        c.refused("no PERSON", make, x -> x.waiting(1, 2), 5);
        c.refused("no PERSON", make, x -> x.leastWaiting(1, 2), 5);
    }

    private static void oneTooMany() {
        c.says("7 one too many.");
        Check.Make full = RefusedTest::full;
        c.refused("undo", full, x -> x.undo(4, 1), 7);
        c.refused("cut", full, x -> x.cut(0, 1), 7);
        c.refused("sell", full, x -> x.sell(0, 1, 1), 7);
        c.refused("7 ahead of 9: a HOLY one", full, x -> x.undo(2, 1), 7);
        c.refused("7 ahead of 9: a HOLY one", full, x -> x.cut(2, 1), 7);
        c.refused("7 ahead of 9: a lent one", full, x -> x.cut(1, 1), 7);
        c.refused("7 ahead of 9: a HOLY one", full, x -> x.sell(2, 1, 1), 7);
        c.refused("7 ahead of 9: one who is not alive", full, x -> x.sell(0, 1, 4), 7);
        c.refused("7 ahead of 9: its OWNER", full, x -> x.sell(0, 1, 0), 7);
        c.refused("5 ahead of 7", full, x -> x.undo(4, 2), 5);
        c.refused("5 ahead of 7", full, x -> x.cut(4, 18), 5);
        c.refused("5 ahead of 7", full, x -> x.sell(4, 19, 1), 5);
        Check.Make knotted = RefusedTest::knotted;
        c.refused("nine PIECES", () -> {
            WellHeirs x = knotted();
            x.takeBack(4);
            return x;
        }, x -> x.knot(0, 4), 7);
        c.refused("7 ahead of 9: of another OWNER", knotted, x -> x.knot(0, 2), 7);
        c.refused("7 ahead of 9: a HOLY one", knotted, x -> x.knot(0, 3), 7);
        c.refused("7 ahead of 9: a lent one", knotted, x -> x.knot(4, 0), 7);
        c.refused("2 ahead of 7: one and the same", knotted, x -> x.knot(0, 0), 2);
        c.refused("2 ahead of 9: one and the same", knotted, x -> x.knot(3, 3), 2);
        c.refused("2 ahead of 7: GONE", knotted, x -> x.knot(0, 1), 2);
        c.refused("a fourth MARK", RefusedTest::marked, x -> x.mark(), 7);
    }

    private static void none() {
        c.says("8 there is none.");
        Check.Make make = RefusedTest::rich;
        c.refused("nobody's child", make, x -> x.person(0, 0), 8);
        c.refused("does not die", make, x -> x.person(1, 1), 8);
        c.refused("no BORROWER", make, x -> x.rope(0, 1), 8);
        c.refused("not lent", make, x -> x.takeBack(0), 8);
        c.refused("no ROPE of its own", make, x -> x.heirloom(4), 8);
        c.refused("it does not DRINK", make, x -> x.best(1), 8);
        c.refused("the dead do not DRINK", make, x -> x.best(4), 8);
        c.refused("it does not DRINK", make, x -> x.drawing(1), 8);
        c.refused("the dead do not DRINK", make, x -> x.drawing(4), 8);
        c.refused("the dead do not thirst", make, x -> x.thirst(4), 8);
        c.refused("nobody DRINKS", RefusedTest::poor, x -> x.last(0), 8);
        c.refused("nobody DRINKS", RefusedTest::poor, x -> x.last(1), 8);
        c.denied("no ROPES", RefusedTest::poor, x -> x.share(0), 8);
        c.refused("nobody is alive", RefusedTest::dead, x -> x.plan(), 8);
        c.refused("no PEOPLE", WellHeirs::new, x -> x.plan(), 8);
        c.refused("no MARK", RefusedTest::poor, x -> x.back(), 8);
        c.refused("no MARK", WellHeirs::new, x -> x.back(), 8);
    }

    private static void cannotBe() {
        c.says("9 it can't be.");
        Check.Make make = RefusedTest::rich;
        c.refused("knot of two OWNERS'", make, x -> x.knot(0, 4), 9);
        c.refused("knot of a lent one", () -> {
            WellHeirs x = rich();
            x.lend(3, 1);
            return x;
        }, x -> x.knot(0, 3), 9);
        c.refused("knot to a lent one", () -> {
            WellHeirs x = rich();
            x.lend(0, 1);
            return x;
        }, x -> x.knot(0, 3), 9);
        Check.Make holy = () -> c.with("person a;rope r of a yards 5 age 1 holy;rope s of a yards 5 age 1;");
        c.refused("knot of a HOLY one", holy, x -> x.knot(1, 0), 9);
        c.refused("knot to a HOLY one", holy, x -> x.knot(0, 1), 9);
        c.refused("undo of a HOLY one", make, x -> x.undo(2, 1), 9);
        c.refused("undo of a lent one", () -> {
            WellHeirs x = rich();
            x.lend(4, 1);
            return x;
        }, x -> x.undo(4, 1), 9);
        c.refused("5 ahead of 9", make, x -> x.undo(2, 2), 5);
        c.refused("cut of a HOLY one", make, x -> x.cut(2, 1), 9);
        c.refused("cut of a lent one", make, x -> x.cut(1, 1), 9);
        c.refused("5 ahead of 9", make, x -> x.cut(2, 41), 5);
        for (int yards : new int[] {1, 41}) c.refused("sell of a HOLY one", make, x -> x.sell(2, yards, 1), 9);
        for (int yards : new int[] {1, 19}) {
            c.refused("sell of a lent one", make, x -> x.sell(1, yards, 0), 9);
            c.refused("sell of a lent one to its BORROWER", make, x -> x.sell(1, yards, 2), 9);
        }
        for (int yards : new int[] {1, 25}) {
            c.refused("sell to one who is not alive", make, x -> x.sell(0, yards, 4), 9);
            c.refused("sell to its OWNER", make, x -> x.sell(0, yards, 0), 9);
        }
        c.refused("all YARDS, though there are 12: HOLY", RefusedTest::full, x -> x.sell(2, 41, 1), 9);
        c.refused("5 ahead of 9", make, x -> x.sell(2, 42, 1), 5);
        c.refused("5 ahead of 9", make, x -> x.sell(0, 0, 0), 5);
        c.refused("lend of a lent one", make, x -> x.lend(1, 3), 9);
        c.refused("lend of a lent one to its BORROWER", make, x -> x.lend(1, 2), 9);
        c.refused("lend of a lent one to its OWNER", make, x -> x.lend(1, 1), 9);
        c.refused("lend to its OWNER", make, x -> x.lend(0, 0), 9);
        c.refused("lend to one who is not alive", make, x -> x.lend(0, 4), 9);
        c.refused("plan that can't be", make, x -> x.plan(), 9);
        c.refused("plan without ROPES", RefusedTest::poor, x -> x.plan(), 9);
        c.refused("a queue of one who does not DRINK", make, x -> x.waiting(0, 3), 9);
        c.refused("a queue of one who does not DRINK", make, x -> x.leastWaiting(0, 3), 9);
    }

    private static void asked(String call, Check.Tells tells) {
        WellHeirs x = rich();
        x.many(9);
        tells.of(x);
        c.due("status of " + call, x.status(), 0);
        c.alike("all else behind " + call, Readout.of(x), Readout.of(rich()));
    }

    /** Whatever is asked and answered changes nothing, STATUS being 0: AHEAD, too. */
    private static void asked() {
        c.says("AHEAD (0 to 100) years, none beyond YEAR 200 (refused by 5): what will be (nothing done by hand).");
        for (int what = 0; what < 7; what++) {
            int w = what;
            asked("many", x -> x.many(w));
        }
        asked("read", x -> x.read(0, 3));
        asked("person", x -> x.person(0, 4));
        asked("heirs", x -> x.heirs(0));
        asked("rope", x -> x.rope(2, 5));
        asked("piece", x -> x.piece(2, 1, 1));
        asked("drinks", x -> x.drinks(0));
        asked("who", x -> x.who());
        asked("depth", x -> x.depth(100));
        asked("whoThen", x -> x.whoThen(100));
        asked("owner", x -> x.owner(0, 100));
        asked("thirst", x -> x.thirst(1));
        asked("thirst", x -> x.thirst(0));
        asked("last", x -> x.last(0));
        asked("last", x -> x.last(1));
        asked("odds", x -> x.odds(0, 40, 77, 20) && x.share(0) ? 1 : 0);
        asked("led", x -> x.led(0, 24));
        asked("share", x -> x.share(1) && x.share(0) ? 1 : 0);
        asked("heirloom", x -> x.heirloom(0));
        asked("yardsOf", x -> x.yardsOf(0, 60));
        asked("needed", x -> x.needed());
        asked("spread", x -> x.spread(11));
        asked("holds", x -> x.holds(2) && x.share(0) ? 1 : 0);
        asked("best", x -> x.best(0));
        asked("drawing", x -> x.drawing(3));
        asked("waiting", x -> x.waiting(0, 2));
        asked("leastWaiting", x -> x.leastWaiting(0, 2));
        asked("mark and back", x -> x.mark() + x.back());
    }

    private static void done(String call, Check.Tells does, long due) {
        WellHeirs x = rich();
        x.many(9);
        c.due(x, call, does.of(x), due, 0);
    }

    private static void done(String call, Check.Does does) {
        done(call, x -> does.of(x) ? 1 : 0, 1);
    }

    /** Where nothing is wrong the STATUS is 0, whatever it was ahead of the call. */
    private static void zeroElse() {
        c.says("0 else.");
        done("tray", x -> x.tray(3, 0, 0));
        done("write", x -> x.write(0, 3, 0));
        done("pour", x -> x.pour(0, 0, 1, 0, 2));
        done("well", x -> x.well(34 + 1), 1);
        done("law", x -> x.law(0), 0);
        done("seed", x -> x.seed(0));
        done("pass", x -> x.pass(1), 3);
        done("knot", x -> x.knot(0, 3), 4);
        done("undo", x -> x.undo(0, 1), 5);
        done("cut", x -> x.cut(0, 24), 5);
        done("sell", x -> x.sell(4, 1, 1), 3);
        done("lend", x -> x.lend(0, 3), 66);
        done("takeBack", x -> x.takeBack(1), 2);
        done("dig", x -> x.dig(-9), 54);
        done("plan", x -> {
            x.well(0);
            Check.well(x, "person a;rope r of a yards 1 age 1;");
            x.many(9);
            return x.plan();
        }, 0);
        done("odds", x -> x.odds(4, 0, 0, 1));
        done("share", x -> x.share(4));
        done("holds", x -> x.holds(1));
        done("mark", x -> x.mark(), 3);
        done("back", x -> x.back(), 1);
    }

    public static void main(String[] args) {
        prepared();
        trays();
        texts();
        toldOfTheWell();
        numbersThatCannotBe();
        oneTooMany();
        none();
        cannotBe();
        asked();
        zeroElse();
        c.end("RefusedTest");
    }
}
