/** What the document says of ROPES and of how a year goes by, now and AHEAD: each boundary by itself. */
public final class YearBoundariesTest {
    private static final Check c = new Check();
    private static final int MAX = Integer.MAX_VALUE;
    private static final int MIN = Integer.MIN_VALUE;

    private static WellHeirs passed(WellHeirs x, int year) {
        for (int left = year - x.many(3); left > 0; left -= 50) x.pass(Math.min(50, left));
        c.due("the YEAR", x.many(3), year);
        return x;
    }

    /** A person of the name p and a letter. */
    private static String p(int i) {
        return "p" + (char) ('a' + i);
    }

    // ---- ROPES

    private static void numbers() {
        c.says("ROPES, at most 12, are numbered; one that is GONE leaves its number to the next that is made (the least number of one that is GONE, else the next).");
        WellHeirs x = c.with("person a;rope r of a yards 50 age 1;rope s of a yards 5 age 1;rope t of a yards 5 age 1;rope u of a yards 5 age 1;");
        c.due(x, "the next", x.cut(0, 1), 4, 0);
        c.due(x, "the next", x.cut(0, 1), 5, 0);
        x.knot(0, 3);
        x.knot(0, 1);
        c.due(x, "GONE", x.rope(1, 2), -1, 2);
        c.due(x, "GONE", x.rope(3, 2), -1, 2);
        c.due(x, "not GONE", x.rope(2, 2), 1, 0);
        c.due(x, "the least that is GONE", x.cut(0, 1), 1, 0);
        c.due(x, "the other that is GONE", x.cut(0, 1), 3, 0);
        c.due(x, "the next again", x.cut(0, 1), 6, 0);
        x.knot(1, 6);
        x.knot(1, 5);
        c.due(x, "the last ones GONE", x.cut(0, 1), 5, 0);
        for (int i = 6; i < 12; i++) c.due(x, "the next", x.cut(0, 1), i, 0);
        c.due(x, "twelve", x.many(1), 12, 0);
        c.due(x, "a thirteenth", x.cut(0, 1), -1, 7);
        c.due(x, "the twelfth", x.rope(11, 3), 1, 0);
        c.due(x, "there is no number 12", x.rope(12, 3), -1, 2);
        x.knot(2, 0);
        c.due(x, "the first is GONE", x.rope(0, 0), -1, 2);
        c.due(x, "it leaves its number, too", x.cut(2, 1), 0, 0);
        c.due(x, "full again", x.cut(2, 1), -1, 7);
    }

    private static void owners() {
        c.says("A ROPE has an OWNER (a PERSON, or none: the WELL's), a BORROWER or none, 1 to 8 PIECES.");
        StringBuilder t = new StringBuilder();
        for (int i = 0; i < 8; i++) t.append("person ").append(p(i)).append(i == 7 ? " dies 1;" : ";");
        WellHeirs x = c.with(t + "rope ra of pa yards 1 age 1;rope rb of pg yards 1 age 1;rope rc of ph yards 1 age 1;");
        int[] owners = {0, 6, 7};
        for (int r = 0; r < 3; r++) {
            c.due(x, "OWNER", x.rope(r, 0), owners[r], 0);
            c.due(x, "no BORROWER", x.rope(r, 1), -1, 8);
            c.due(x, "one PIECE", x.rope(r, 2), 1, 0);
        }
        x.lend(0, 7);
        c.due(x, "the last is BORROWER", x.rope(0, 1), 7, 0);
        x.takeBack(0);
        x.lend(1, 0);
        c.due(x, "the first is BORROWER", x.rope(1, 1), 0, 0);
        x.pass(1);
        c.due(x, "the WELL's", x.rope(2, 0), -1, 0);
        c.due(x, "no BORROWER", x.rope(2, 1), -1, 8);
        x.lend(2, 6);
        c.due(x, "the WELL's still", x.rope(2, 0), -1, 0);
        c.due(x, "lent by the WELL", x.rope(2, 1), 6, 0);
    }

    /** Twelve ROPES of a, of which the twelfth alone reaches, the oldest; b dies in YEAR 1, d is its child. */
    private static WellHeirs twelve() {
        WellHeirs x = c.with("water 5 bottom 99;person a;person b dies 1;person d of b;rope r of a yards 1 age 2 yards 5 age 300 yards 40 age 1;");
        for (int i = 1; i <= 10; i++) x.cut(0, 4);
        c.due(x, "the twelfth", x.cut(0, 5), 11, 0);
        return x;
    }

    private static void theTwelfth() {
        c.says("ROPES, at most 12, are numbered");
        WellHeirs x = twelve();
        c.due(x, "AGE", x.rope(11, 5), 300, 0);
        c.due(x, "HEIRLOOM", x.heirloom(0), 11, 0);
        c.due(x, "BEST", x.best(0), 11, 0);
        c.due(x, "DRAWING", x.drawing(0), 11, 0);
        c.due(x, "NEEDED", x.needed(), 2048, 0);
        c.due(x, "who DRINKS", x.who(), 1, 0);
        c.due(x, "its own", x.person(0, 3), 46, 0);
        c.due(x, "HOLDS", x.person(0, 4), 46, 0);
        c.due(x, "YARDS of 300", x.yardsOf(300, 300), 5, 0);
        c.due(x, "PLAN", x.spread(0), 1, 0);
        x.sell(11, 5, 1);
        c.fraction(x, "SHARE", x.share(1), 5, 46);
        c.due(x, "its own", x.person(1, 3), 5, 0);
        c.due(x, "OWNER AHEAD", x.owner(11, 1), 2, 0);
        c.due(x, "who DRINKS AHEAD", x.whoThen(1), 4, 0);
        x.mark();
        x.pass(1);
        c.due(x, "it is inherited", x.rope(11, 0), 2, 0);
        x.sell(11, 5, 0);
        x.knot(0, 11);
        c.due(x, "GONE", x.rope(11, 0), -1, 2);
        x.back();
        c.due(x, "back again", x.rope(11, 0), 1, 0);
        c.due(x, "YARDS", x.rope(11, 3), 5, 0);
        x = twelve();
        x.lend(11, 1);
        c.due(x, "HOLDS", x.person(1, 4), 5, 0);
        c.due(x, "who DRINKS", x.who(), 2, 0);
        c.due(x, "AHEAD it is lent no more", x.whoThen(1), 1, 0);
        x.pass(1);
        c.due(x, "lent no more", x.rope(11, 1), -1, 8);
        x.depth(9);
        Check.well(x, "person a;rope r of a yards 1 age 1;");
        c.due(x, "another WELL has one alone", x.many(1), 1, 0);
        c.due(x, "the next", x.rope(11, 0), -1, 2);
    }

    private static void reach() {
        c.says("YARDS: of all PIECES; KNOTS: one less than PIECES; REACH: YARDS less KNOTS.");
        String four = " yards 1 age 1 yards 1 age 1 yards 1 age 1 yards 1 age 1";
        WellHeirs x = c.with("person a;rope r of a yards 1 age 1;rope s of a yards 200 age 1;rope t of a" + four + ";rope u of a" + four + ";");
        c.due(x, "one yard", x.rope(0, 4), 1, 0);
        c.due(x, "no KNOT", x.rope(1, 4), 200, 0);
        c.due(x, "three KNOTS", x.rope(2, 4), 1, 0);
        c.due(x, "eight PIECES", x.knot(2, 3), 8, 0);
        c.due(x, "eight yards", x.rope(2, 3), 8, 0);
        c.due(x, "seven KNOTS", x.rope(2, 4), 1, 0);
        x = c.with("person a;rope r of a yards 200 age 1 yards 200 age 1 yards 200 age 1 yards 200 age 1;rope s of a yards 200 age 1 yards 200 age 1 yards 200 age 1 yards 200 age 1;");
        x.knot(0, 1);
        c.due(x, "the most yards", x.rope(0, 3), 1600, 0);
        c.due(x, "the most REACH", x.rope(0, 4), 1593, 0);
    }

    private static void ages() {
        c.says("AGE of a PIECE: as told, and the YEARS since then; of a ROPE: the greatest.");
        WellHeirs x = c.with("person a;rope r of a yards 1 age 0 yards 1 age 300 yards 1 age 7;rope s of a yards 1 age 9 yards 1 age 8;rope t of a yards 1 age 2 yards 1 age 3;"
            + "rope u of a yards 1 age 0;");
        for (int year : new int[] {0, 1, 199, 200}) {
            passed(x, year);
            c.due(x, "the least", x.piece(0, 0, 1), year, 0);
            c.due(x, "the greatest", x.piece(0, 1, 1), 300 + year, 0);
            c.due(x, "the last", x.piece(0, 2, 1), 7 + year, 0);
            c.due(x, "a ROPE's, in the midst", x.rope(0, 5), 300 + year, 0);
            c.due(x, "a ROPE's, the first", x.rope(1, 5), 9 + year, 0);
            c.due(x, "a ROPE's, the last", x.rope(2, 5), 3 + year, 0);
            c.due(x, "a ROPE's of 0", x.rope(3, 5), year, 0);
        }
        c.due(x, "cut off in a late YEAR it is as old", x.cut(0, 1), 4, 0);
        c.due(x, "as old", x.rope(4, 5), 207, 0);
    }

    // ---- DEPTH

    private static void depth() {
        c.says("DEPTH of the WATER: where it stands, less what FLOODS of that YEAR add, together (0 at least).");
        WellHeirs x = c.with("water 10 bottom 99;flood 2 to 4 by 3;flood 4 to 4 by 7;flood 5 to 6 by 11;flood 200 to 200 by 1;");
        int[] due = {10, 10, 7, 7, 0, 0, 0, 10};
        for (int year = 0; year < due.length; year++) c.due(x, "DEPTH in " + year, x.depth(year), due[year], 0);
        for (int year = 0; year < due.length; year++) c.due("DEPTH in " + year, passed(x, year).many(4), due[year]);
        c.due("the YEAR before the last", passed(x, 199).many(4), 10);
        c.due("a FLOOD in the last YEAR", passed(x, 200).many(4), 9);
        x = c.with("water 10 bottom 99;flood 0 to 0 by 9;");
        c.due(x, "a FLOOD in YEAR 0", x.many(4), 1, 0);
        c.due(x, "gone in YEAR 1", x.depth(1), 10, 0);
        x = c.with("water 10 bottom 99;flood 0 to 200 by 10;");
        c.due(x, "as high as the WATER is deep", x.many(4), 0, 0);
        x = c.with("water 10 bottom 99;flood 0 to 200 by 11;");
        c.due(x, "one more", x.many(4), 0, 0);
        x = c.with("water 999 bottom 99;flood 0 to 5 by 999;flood 0 to 5 by 999;flood 0 to 5 by 999;flood 0 to 5 by 999;");
        c.due(x, "four of the most", x.depth(5), 0, 0);
        c.due(x, "they leave the WATER where it stands", x.depth(6), 999, 0);
        x = c.with("water 0 bottom 0;");
        c.due(x, "DEPTH 0", x.many(4), 0, 0);
    }

    private static void dry() {
        c.says("The well is DRY, if DEPTH is above the BOTTOM.");
        String rope = "person a;rope r of a yards 200 age 1;";
        c.due("at the BOTTOM", c.with("water 5 bottom 5;" + rope).who(), 1);
        c.due("one below it", c.with("water 6 bottom 5;" + rope).who(), 0);
        c.due("one above it", c.with("water 4 bottom 5;" + rope).who(), 1);
        c.due("a FLOOD up to the BOTTOM", c.with("water 6 bottom 5;flood 0 to 0 by 1;" + rope).who(), 1);
        c.due("a FLOOD not so high", c.with("water 7 bottom 5;flood 0 to 0 by 1;" + rope).who(), 0);
        c.due("DEPTH 0, BOTTOM 0", c.with("water 0 bottom 0;" + rope).who(), 1);
        c.due("no water told", c.with(rope).who(), 1);
        WellHeirs x = c.with("water 6 bottom 5;" + rope);
        c.due(x, "dug", x.dig(1), 6, 0);
        c.due(x, "no more DRY", x.drinks(0), 1, 0);
        c.due(x, "a stone", x.dig(-1), 5, 0);
        c.due(x, "DRY again", x.drinks(0), 0, 0);
    }

    private static void holdsAndDrinks() {
        c.says("A PERSON HOLDS ROPES it has borrowed, and its own that are not lent.");
        WellHeirs x = c.with("water 9 bottom 99;person a;person b;person d;rope r of a yards 9 age 1;rope s of a yards 3 age 1;rope t of b yards 8 age 1;");
        c.due(x, "its own", x.person(0, 4), 12, 0);
        x.lend(0, 1);
        c.due(x, "not what is lent", x.person(0, 4), 3, 0);
        c.due(x, "its own still", x.person(0, 3), 12, 0);
        c.due(x, "and what is borrowed", x.person(1, 4), 17, 0);
        c.due(x, "not its own", x.person(1, 3), 8, 0);
        c.due(x, "nothing", x.person(2, 4), 0, 0);
        c.due(x, "who DRINKS", x.who(), 2, 0);
        x.takeBack(0);
        c.due(x, "who DRINKS", x.who(), 1, 0);
        c.says("One who is alive DRINKS, if the well is not DRY and one that it HOLDS has a REACH of at least DEPTH.");
        c.due("REACH as DEPTH", c.with("water 9 bottom 99;person a;rope r of a yards 5 age 1 yards 5 age 1;").drinks(0), 1);
        c.due("one less", c.with("water 10 bottom 99;person a;rope r of a yards 5 age 1 yards 5 age 1;").drinks(0), 0);
        c.due("one of two", c.with("water 10 bottom 99;person a;rope r of a yards 9 age 1;rope s of a yards 10 age 1;").drinks(0), 1);
        c.due("two of 9 are not one of 10", c.with("water 10 bottom 99;person a;rope r of a yards 9 age 1;rope s of a yards 9 age 1;").drinks(0), 0);
        c.due("without a ROPE, at DEPTH 0", c.with("person a;").drinks(0), 0);
        c.says("1 if a PERSON DRINKS, else 0 (2).");
        StringBuilder t = new StringBuilder();
        for (int i = 0; i < 8; i++) t.append("person ").append(p(i)).append(";");
        for (int i = 0; i < 6; i++) t.append("rope r").append((char) ('a' + i)).append(" of ").append(p(i)).append(" yards 9 age 1;");
        x = c.with(t.toString());
        x.sell(0, 1, 6);
        c.due(x, "seven DRINK", x.who(), 127, 0);
        x.sell(0, 1, 7);
        c.says("The set of PEOPLE who DRINK.");
        c.due(x, "all eight", x.who(), 255, 0);
        c.due(x, "the last", x.drinks(7), 1, 0);
        c.due(x, "one behind the last", x.drinks(8), -1, 2);
        c.due(x, "one ahead of the first", x.drinks(-1), -1, 2);
        c.due("nobody", new WellHeirs().who(), 0);
    }

    private static void alive() {
        c.says("alive is one while the YEAR is below that");
        WellHeirs x = c.with("person a dies 1;person b dies 2;person d dies 200;person e;rope r of a yards 1 age 1;rope s of b yards 1 age 1;rope t of d yards 1 age 1;rope u of e yards 1 age 1;");
        int[][] due = {{0, 15}, {1, 14}, {2, 12}, {199, 12}, {200, 8}};
        for (int[] step : due) {
            passed(x, step[0]);
            int set = 0;
            for (int i = 0; i < 4; i++) set |= x.person(i, 2) << i;
            c.due("alive in " + step[0], set, step[1]);
            c.due(x, "who DRINKS in " + step[0], x.who(), step[1], 0);
        }
        c.due(x, "the last YEAR's dead leaves its ROPE", x.rope(2, 0), -1, 0);
        c.says("The set of children (1 for PERSON 0, 2 for 1 ..) who are alive (2).");
        StringBuilder t = new StringBuilder("person pa;");
        for (int i = 1; i < 8; i++) t.append("person ").append(p(i)).append(" of pa").append(i == 4 ? " dies 3;" : ";");
        x = c.with(t.toString());
        c.due(x, "seven children", x.heirs(0), 254, 0);
        c.due(x, "none", x.heirs(7), 0, 0);
        c.due(x, "one behind the last", x.heirs(8), -1, 2);
        c.due(x, "one ahead of the first", x.heirs(-1), -1, 2);
        c.due("in the YEAR before", passed(x, 2).heirs(0), 254);
        c.due("one dies", passed(x, 3).heirs(0), 238);
    }

    // ---- a year goes by

    private static void sinks() {
        c.says("A YEAR goes by: YEAR is one more (200 at most); the WATER SINKS (999 yards at most)");
        int[][] cases = {{0, 0, 0}, {0, 1, 1}, {900, 98, 998}, {900, 99, 999}, {901, 99, 999}, {998, 1, 999}, {998, 2, 999}, {999, 0, 999}, {999, 99, 999}};
        for (int[] one : cases) {
            WellHeirs x = c.with("water " + one[0] + " bottom 999 sinks " + one[1] + ";");
            c.due(x, "it SINKS", x.depth(1), one[2], 0);
            x.pass(1);
            c.due(x, "it sank", x.many(4), one[2], 0);
        }
        WellHeirs x = c.with("water 1 bottom 999 sinks 99;");
        c.due(x, "ten years", x.depth(10), 991, 0);
        c.due(x, "eleven", x.depth(11), 999, 0);
        x = c.with("water 999 bottom 999 sinks 99;flood 1 to 1 by 9;");
        c.due(x, "what a FLOOD adds does not stay", x.depth(1), 990, 0);
        c.due(x, "the YEAR behind it", x.depth(2), 999, 0);
    }

    private static int next(int s) {
        return (s * 2801 + 9011) % 65536;
    }

    private static int draw(int seed) {
        return next(seed) / 8 % 16;
    }

    private static int seedOf(int draw) {
        int seed = 0;
        while (draw(seed) != draw) seed++;
        return seed;
    }

    private static void rain() {
        c.says("a draw by 16 if there is RAIN (not 0): less than that, and it comes up (0 at least)");
        for (int draw = 0; draw < 16; draw++) {
            for (int rain = 0; rain <= 16; rain++) {
                WellHeirs x = c.with("water 50 bottom 99 rain " + rain + " by 7;");
                x.seed(seedOf(draw));
                x.pass(1);
                c.due("a draw of " + draw + " with RAIN " + rain, x.many(4), draw < rain ? 43 : 50);
                c.due("the state", x.many(6), rain == 0 ? seedOf(draw) : next(seedOf(draw)));
            }
        }
        int[][] cases = {{7, 0, 0}, {6, 0, 0}, {8, 0, 1}, {0, 0, 0}, {2, 5, 0}, {2, 6, 1}, {998, 9, 992}, {999, 99, 992}};
        for (int[] one : cases) {
            WellHeirs x = c.with("water " + one[0] + " bottom 99 sinks " + one[1] + " rain 16 by 7;");
            c.due(x, "it SINKS, then it comes up", x.depth(1), one[2], 0);
        }
        WellHeirs x = c.with("water 3 bottom 99 sinks 2 rain 8 by 7;");
        int seed = 0;
        while (draw(seed) >= 8 || draw(next(seed)) < 8) seed++;
        x.seed(seed);
        c.due(x, "it came up to 0", x.depth(1), 0, 0);
        c.due(x, "and SINKS from 0", x.depth(2), 2, 0);
        x = c.with("water 50 bottom 99 rain 16 by 0;");
        x.pass(1);
        c.due("RAIN by 0: a draw", x.many(6), 9011);
        c.due("RAIN by 0: DEPTH", x.many(4), 50);
        x = c.with("water 50 bottom 99 rain 0 by 99;");
        x.seed(5);
        x.pass(50);
        c.due("RAIN 0: no draw", x.many(6), 5);
        c.due("RAIN 0: DEPTH", x.many(4), 50);
        x = c.with("water 50 bottom 99;");
        x.seed(5);
        x.pass(50);
        c.due("no RAIN told: no draw", x.many(6), 5);
    }

    private static void draws() {
        c.says("Draws: s, at first the seed, becomes what is left of s times 2,801 and 9,011 by 65,536; the draw is the rest of s by 8, rounded down, by 16; "
            + "s goes on from year to year.");
        for (int seed : new int[] {0, 1, 7, 4095, 9998, 9999}) {
            WellHeirs x = c.with("water 500 bottom 999 sinks 3 rain 9 by 5;");
            x.seed(seed);
            long s = seed;
            long water = 500;
            for (int year = 1; year <= 50; year++) {
                s = (s * 2801 + 9011) % 65536;
                water += 3 - (s / 8 % 16 < 9 ? 5 : 0);
                c.due("AHEAD " + year, x.depth(1), water);
                x.pass(1);
                c.due("s in " + year, x.many(6), s);
                c.due("DEPTH in " + year, x.many(4), water);
            }
            WellHeirs y = c.with("water 500 bottom 999 sinks 3 rain 9 by 5;");
            y.seed(seed);
            c.due("all at once", y.depth(50), water);
            y.pass(50);
            c.due("s, all at once", y.many(6), s);
        }
        c.says("The draws' state is a seed (0 to 9,999) (5).");
        WellHeirs x = c.with("water 50 bottom 99 rain 9 by 5;");
        for (int seed : new int[] {0, 1, 9998, 9999}) {
            c.due(x, "seed " + seed, x.seed(seed), true, 0);
            c.due(x, "the state", x.many(6), seed, 0);
        }
        for (int seed : new int[] {-1, 10000, MIN, MAX}) c.due(x, "seed " + seed, x.seed(seed), false, 5);
        c.due(x, "the state stays", x.many(6), 9999, 0);
    }

    private static void pass() {
        c.says("So many YEARS go by (1 to 50): which one it is (5: above 200, too).");
        WellHeirs x = c.with("person a;");
        c.due(x, "pass(1)", x.pass(1), 1, 0);
        c.due(x, "pass(50)", x.pass(50), 51, 0);
        c.due(x, "pass(49)", x.pass(49), 100, 0);
        for (int years : new int[] {0, 51, -1, MIN, MAX}) c.due(x, "pass(" + years + ")", x.pass(years), -1, 5);
        c.due(x, "no YEAR went by", x.many(3), 100, 0);
        c.due(x, "pass(50)", x.pass(50), 150, 0);
        x.mark();
        c.due(x, "200 itself", x.pass(50), 200, 0);
        x.back();
        x.pass(1);
        c.due(x, "one above 200", x.pass(50), -1, 5);
        c.due(x, "200 itself", x.pass(49), 200, 0);
        c.due(x, "none behind it", x.pass(1), -1, 5);
        c.due(x, "nor so many", x.pass(50), -1, 5);
        c.due(x, "200", x.many(3), 200, 0);
    }

    // ---- deaths

    private static WellHeirs dies(String well, String law, int year) {
        WellHeirs x = law.isEmpty() ? c.with(well) : c.with(well, law);
        return passed(x, year);
    }

    private static final String TWO = "person a dies 1;person b of a;person d of a;person e;";

    private static void lentNoMore() {
        c.says("then PEOPLE by numbers who DIE in that YEAR: what each has borrowed is lent no more");
        WellHeirs x = c.with(TWO + "rope r of e yards 5 age 1;rope s of b yards 2 age 1;");
        x.lend(0, 0);
        x.lend(1, 2);
        x.pass(1);
        c.due(x, "what the dead borrowed", x.rope(0, 1), -1, 8);
        c.due(x, "its OWNER", x.rope(0, 0), 3, 0);
        c.due(x, "what others borrowed", x.rope(1, 1), 2, 0);
        x = c.with("person z dies 1;" + TWO.replace("dies 1", "dies 2") + "rope r of z yards 5 age 1;");
        x.pass(1);
        c.due(x, "the WELL's", x.rope(0, 0), -1, 0);
        x.lend(0, 1);
        c.due(x, "lent by the WELL", x.rope(0, 1), 1, 0);
        x.pass(1);
        c.due(x, "lent no more", x.rope(0, 1), -1, 8);
        c.due(x, "the WELL's still", x.rope(0, 0), -1, 0);
        c.says(", and it is lent no more (already when the RULE's word is asked: a HEIR who had borrowed it does not HOLD it then)");
        for (String whom : new String[] {"eldest", "youngest", "poorest", "each", "well"}) {
            x = c.with(TWO + "rope r of a yards 5 age 1;rope s of d yards 1 age 1;", "if year = 1 give " + whom + ";");
            x.lend(0, 3);
            x.pass(1);
            c.due(x, "given to the " + whom, x.rope(0, 1), -1, 8);
        }
        x = c.with(TWO + "rope r of a yards 5 age 1;rope s of d yards 1 age 1;", "if year = 1 give poorest;");
        x.lend(0, 1);
        x.pass(1);
        c.due(x, "its borrower is the poorest without it", x.rope(0, 0), 1, 0);
        x = c.with(TWO + "rope r of a yards 5 age 1;rope s of a yards 9 age 1;", "if yards = 5 give poorest;");
        x.lend(1, 1);
        x.pass(1);
        c.due(x, "what is given later is HELD by its borrower till then", x.rope(0, 0), 2, 0);
        x = c.with(TWO + "rope r of a yards 9 age 1;rope s of a yards 5 age 1;", "if yards = 5 give poorest;");
        x.lend(0, 1);
        x.pass(1);
        c.due(x, "what is given first is the eldest's", x.rope(0, 0), 1, 0);
        c.due(x, "the poorest is asked behind that", x.rope(1, 0), 2, 0);
    }

    private static void byNumbers() {
        c.says("then its own ROPES by numbers: the first RULE of the LAW that holds for it gives it (eldest, without such a RULE)");
        String ropes = "rope r of a yards 5 age 1;rope s of a yards 6 age 1;rope t of a yards 7 age 1;";
        WellHeirs x = dies(TWO + ropes, "if year = 1 give poorest;", 1);
        c.due(x, "all alike: the least", x.rope(0, 0), 1, 0);
        c.due(x, "the other is poorer", x.rope(1, 0), 2, 0);
        c.due(x, "5 by 6", x.rope(2, 0), 1, 0);
        x = dies(TWO + ropes, "if yards = 6 give youngest;if yards > 5 give well;if yards > 6 give youngest;", 1);
        c.due(x, "no RULE holds: eldest", x.rope(0, 0), 1, 0);
        c.due(x, "the first RULE", x.rope(1, 0), 2, 0);
        c.due(x, "the second, not the third", x.rope(2, 0), -1, 0);
        x = dies(TWO + ropes, "", 1);
        for (int r = 0; r < 3; r++) c.due(x, "no LAW: eldest", x.rope(r, 0), 1, 0);
        x = dies("person a;person b of a dies 1;person d of b;person e of b;rope r of a yards 5 age 1;rope s of b yards 5 age 1;", "if year = 1 give youngest;", 1);
        c.due(x, "one's who lives on is not given", x.rope(0, 0), 0, 0);
        c.due(x, "its own", x.rope(1, 0), 3, 0);
        x = dies(TWO + ropes, "if year = 2 give well;", 2);
        c.due(x, "not in another YEAR", x.rope(0, 0), 1, 0);
        String eleven = "if holy give well;".repeat(11);
        c.due("the twelfth RULE", dies(TWO + ropes, eleven + "if yards = 5 give youngest;", 1).rope(0, 0), 2);
    }

    private static void heirsAre() {
        c.says("HEIRS are its children who are alive; eldest: the least HEIR, youngest: the greatest, poorest: who HOLDS ROPES of the fewest YARDS (of several the least)");
        String rope = "rope r of a yards 5 age 1;";
        StringBuilder seven = new StringBuilder("person a dies 1;");
        for (int i = 1; i < 8; i++) seven.append("person ").append(p(i)).append(" of a;");
        c.due("eldest of seven", dies(seven + rope, "if year = 1 give eldest;", 1).rope(0, 0), 1);
        c.due("youngest of seven", dies(seven + rope, "if year = 1 give youngest;", 1).rope(0, 0), 7);
        c.due("poorest of seven alike", dies(seven + rope, "if year = 1 give poorest;", 1).rope(0, 0), 1);
        String rich = "rope s of pb yards 2 age 1;rope t of pc yards 2 age 1;rope u of pd yards 1 age 1;rope v of pe yards 1 age 1;rope w of pf yards 1 age 1;";
        WellHeirs x = c.with(seven + rope + rich, "if year = 1 give poorest;");
        x.lend(5, 6);
        x.lend(4, 7);
        x.pass(1);
        c.due(x, "who HOLDS none, of two the least", x.rope(0, 0), 4, 0);
        StringBuilder eighth = new StringBuilder();
        for (int i = 0; i < 7; i++) eighth.append("person ").append(p(i)).append(i == 6 ? " dies 1;" : ";");
        for (String whom : new String[] {"eldest", "youngest", "poorest", "each"}) {
            c.due("the eighth PERSON: " + whom, dies(eighth + "person ph of pg;rope r of pg yards 5 age 1;", "if year = 1 give " + whom + ";", 1).rope(0, 0), 7);
        }
        String one = "person a dies 1;person e;person b of a;person d of a dies 1;person f of a dies 1;";
        for (String whom : new String[] {"eldest", "youngest", "poorest", "each"}) {
            c.due("one HEIR: " + whom, dies(one + rope, "if year = 1 give " + whom + ";", 1).rope(0, 0), 2);
        }
        c.due("children who die in that YEAR are none", dies("person a dies 1;person b of a dies 1;" + rope, "", 1).rope(0, 0), -1);
        c.due("nor those dead already", dies("person a dies 3;person b of a dies 1;person d of a;" + rope, "", 3).rope(0, 0), 2);
        c.due("who dies a YEAR later is one", dies("person a dies 1;person b of a dies 2;person d of a;" + rope, "", 1).rope(0, 0), 1);
        c.due("and gives it on", dies("person a dies 1;person b of a dies 2;person d of b;" + rope, "", 2).rope(0, 0), 2);
        c.due("no grandchildren", dies("person a dies 2;person b of a dies 1;person d of b;" + rope, "", 2).rope(0, 0), -1);
        c.says("well, or without HEIRS: the WELL's.");
        c.due("well", dies(TWO + rope, "if heirs = 2 give well;", 1).rope(0, 0), -1);
        for (String whom : new String[] {"eldest", "youngest", "poorest", "each", "well"}) {
            x = dies("person a dies 1;person e;" + rope, "if heirs = 0 give " + whom + ";", 1);
            c.due(x, "without HEIRS: " + whom, x.rope(0, 0), -1, 0);
            c.due(x, "whole", x.rope(0, 3), 5, 0);
        }
    }

    private static String family(int heirs) {
        StringBuilder t = new StringBuilder("person pa dies 1;");
        for (int i = 1; i <= heirs; i++) t.append("person ").append(p(i)).append(" of pa;");
        return t.toString();
    }

    private static final String EACH = "if year = 1 give each;";

    private static void each() {
        c.says("each: as many parts as HEIRS, of as many YARDS each, the first ones one more if they do not come out even, the first from its top on to the least HEIR ..");
        for (int heirs = 1; heirs <= 7; heirs++) {
            for (int yards : new int[] {heirs, heirs + 1, 2 * heirs - 1, 2 * heirs, 2 * heirs + 1, 200}) {
                WellHeirs x = dies(family(heirs) + "rope r of pa yards " + yards + " age 1;", EACH, 1);
                c.due("ropes", x.many(1), heirs);
                for (int i = 0; i < heirs; i++) {
                    c.due(x, "OWNER of part " + i, x.rope(i, 0), i + 1, 0);
                    c.due(x, "YARDS of part " + i + " of " + yards, x.rope(i, 3), yards / heirs + (i < yards % heirs ? 1 : 0), 0);
                }
            }
        }
        WellHeirs x = dies(family(3) + "rope r of pa yards 4 age 10 yards 4 age 20 yards 3 age 30 slips 6;", EACH, 1);
        int[][] pieces = {{0, 0, 4, 11}, {1, 0, 4, 21}, {2, 0, 3, 31}};
        for (int[] one : pieces) {
            c.due(x, "at a KNOT", x.rope(one[0], 2), 1, 0);
            c.due(x, "YARDS", x.piece(one[0], one[1], 0), one[2], 0);
            c.due(x, "AGE", x.piece(one[0], one[1], 1), one[3], 0);
            c.due(x, "it SLIPS alike", x.rope(one[0], 7), 6, 0);
            c.due(x, "not HOLY", x.rope(one[0], 6), 0, 0);
        }
        x = dies(family(2) + "rope r of pa yards 3 age 10 yards 4 age 20;", EACH, 1);
        c.due(x, "the first, within a PIECE", x.rope(0, 2), 2, 0);
        c.due(x, "its last PIECE", x.piece(0, 1, 0), 1, 0);
        c.due(x, "the second", x.piece(1, 0, 0), 3, 0);
        c.due(x, "as old", x.piece(1, 0, 1), 21, 0);
        x = dies("person a dies 1;person b of a;person d of a dies 1;person e;person f of a;rope r of a yards 5 age 1;", EACH, 1);
        c.due(x, "HEIRS alone", x.many(1), 2, 0);
        c.due(x, "the next HEIR", x.rope(1, 0), 4, 0);
        x = c.with(family(2) + "rope r of pa yards 5 age 1;", EACH);
        x.lend(0, 2);
        x.pass(1);
        c.due(x, "lent no more", x.rope(0, 1), -1, 8);
        c.due(x, "nor the part", x.rope(1, 1), -1, 8);
    }

    private static void eachNumbers() {
        c.says("the first keeps the number, the others are made one behind the other");
        String others = "person z;rope ra of z yards 1 age 1;rope rb of z yards 1 age 1;rope rc of pa yards 9 age 1;rope rd of z yards 1 age 1;rope re of z yards 1 age 1;";
        WellHeirs x = c.with(family(4) + others, EACH);
        x.knot(0, 3);
        x.knot(0, 1);
        x.pass(1);
        int[][] due = {{2, 1, 3}, {1, 2, 2}, {3, 3, 2}, {5, 4, 2}};
        for (int[] one : due) {
            c.due(x, "OWNER of " + one[0], x.rope(one[0], 0), one[1], 0);
            c.due(x, "YARDS of " + one[0], x.rope(one[0], 3), one[2], 0);
        }
        c.due(x, "no more", x.rope(6, 0), -1, 2);
        x = dies(family(2) + "rope ra of pa yards 5 age 1;rope rb of pa yards 7 age 1;", EACH, 1);
        int[][] two = {{0, 1, 3}, {1, 1, 4}, {2, 2, 2}, {3, 2, 3}};
        for (int[] one : two) {
            c.due(x, "OWNER of " + one[0], x.rope(one[0], 0), one[1], 0);
            c.due(x, "YARDS of " + one[0], x.rope(one[0], 3), one[2], 0);
        }
    }

    /** So many ropes: a dead one's of 20 yards is number 0, the others are z's. */
    private static WellHeirs ropes(int heirs, int ropes) {
        WellHeirs x = c.with(family(heirs) + "person z;rope r of pa yards 20 age 1;rope s of z yards 50 age 1;", EACH);
        for (int i = 2; i < ropes; i++) x.cut(1, 1);
        c.due("ropes", x.many(1), ropes);
        return passed(x, 1);
    }

    private static void eachRefused() {
        c.says("a HOLY one, one of fewer YARDS than HEIRS, or where there would be more than 12 ROPES: to the eldest");
        WellHeirs x = dies(family(2) + "rope r of pa yards 9 age 1 holy;", EACH, 1);
        c.due(x, "a HOLY one", x.rope(0, 0), 1, 0);
        c.due(x, "whole", x.rope(0, 3), 9, 0);
        for (int heirs = 2; heirs <= 7; heirs++) {
            x = dies(family(heirs) + "rope r of pa yards " + (heirs - 1) + " age 1;", EACH, 1);
            c.due(x, "one YARD fewer than " + heirs, x.rope(0, 0), 1, 0);
            c.due(x, "whole", x.rope(0, 3), heirs - 1, 0);
            c.due(x, "alone", x.many(1), 1, 0);
        }
        for (int heirs = 2; heirs <= 6; heirs++) {
            x = ropes(heirs, 13 - heirs);
            c.due(x, "twelve, with " + heirs + " HEIRS", x.many(1), 12, 0);
            c.due(x, "the last part", x.rope(11, 0), heirs, 0);
            x = ropes(heirs, 14 - heirs);
            c.due(x, "there would be thirteen: no more are made", x.many(1), 14 - heirs, 0);
            c.due(x, "to the eldest", x.rope(0, 0), 1, 0);
            c.due(x, "whole", x.rope(0, 3), 20, 0);
        }
        x = ropes(1, 12);
        c.due(x, "one HEIR, twelve ROPES", x.rope(0, 0), 1, 0);
        c.due(x, "twelve", x.many(1), 12, 0);
        x = c.with(family(3) + "person z;rope ra of pa yards 3 age 1;rope rb of pa yards 4 age 1;rope rc of pa yards 5 age 1;rope s of z yards 50 age 1;", EACH);
        for (int i = 4; i < 8; i++) x.cut(3, 1);
        x.pass(1);
        c.due(x, "eight, ten, twelve", x.many(1), 12, 0);
        c.due(x, "the second is parted still", x.rope(1, 3), 2, 0);
        c.due(x, "the third is the eldest's", x.rope(2, 0), 1, 0);
        c.due(x, "whole", x.rope(2, 3), 5, 0);
    }

    private static void cases() {
        c.says("holy: it is; reaches: its REACH is at least the DEPTH; yards, reach, knots, age: its own; heirs: how many; year.");
        String well = "water 3 bottom 99 sinks 1;person a dies 5;person b of a;person d of a;rope r of a yards 4 age 20 yards 5 age 3;";
        Object[][] facts = {{"yards", 9}, {"reach", 8}, {"knots", 1}, {"age", 25}, {"heirs", 2}, {"year", 5}};
        for (Object[] fact : facts) {
            for (int d = -1; d <= 1; d++) {
                int n = (Integer) fact[1] + d;
                holds(well, fact[0] + "<" + n, d > 0);
                holds(well, fact[0] + ">" + n, d < 0);
                holds(well, fact[0] + "=" + n, d == 0);
                holds(well, "not " + fact[0] + "=" + n, d != 0);
            }
            holds(well, fact[0] + "<0", false);
            holds(well, fact[0] + ">0", true);
            holds(well, fact[0] + "<999", true);
            holds(well, fact[0] + ">999", false);
        }
        String longest = "person a dies 200;person b of a;rope r of a yards 200 age 300 yards 200 age 1 yards 200 age 1 yards 200 age 1;rope s of a yards 200 age 1;";
        WellHeirs x = c.with(longest, "if yards=999 give well;if age=500 and yards>999 and reach=996 and knots=4 and year=200 give well;");
        x.knot(0, 1);
        passed(x, 200);
        c.due(x, "1,000 YARDS are above 999, 500 years", x.rope(0, 0), -1, 0);
        holds(well, "reaches", true);
        holds(well.replace("water 3", "water 2"), "reaches", true);
        holds(well.replace("water 3", "water 0"), "reaches", true);
        holds(well.replace("water 3", "water 900"), "reaches", false);
        holds(well.replace("water 3", "water 4"), "reaches", false);
        holds(well.replace("water 3", "water 4") + "flood 5 to 5 by 1;", "reaches", true);
        holds(well + "flood 0 to 4 by 3;", "reaches", true);
        holds(well.replace("water 3", "water 4") + "flood 4 to 4 by 3;flood 6 to 6 by 3;", "reaches", false);
        holds(well.replace("bottom 99", "bottom 0"), "reaches", true);
        holds(well, "holy", false);
        holds(well.replace("age 3;", "age 3 holy;"), "holy", true);
    }

    /** Whether a ONE holds for the rope that a leaves in the year 5. */
    private static void holds(String well, String one, boolean due) {
        WellHeirs x = passed(c.with(well, "if " + one + " give youngest;"), 5);
        c.due(x, one + " in " + well, x.rope(0, 0), due ? 2 : 1, 0);
    }

    private static void binding() {
        c.says("EITHER: BOTH {or BOTH}. BOTH: ONE {and ONE}. ONE: not ONE, or ( EITHER ), or holy");
        String well = "person a dies 5;person b of a;person d of a;rope r of a yards 1 age 1;";
        String t = "yards=1";
        String f = "holy";
        for (int bits = 0; bits < 8; bits++) {
            boolean a = (bits & 1) == 1;
            boolean b = (bits & 2) == 2;
            boolean d = (bits & 4) == 4;
            String p = a ? t : f;
            String q = b ? t : f;
            String r = d ? t : f;
            holds(well, p + " or " + q + " and " + r, a || b && d);
            holds(well, p + " and " + q + " or " + r, a && b || d);
            holds(well, "(" + p + " or " + q + ") and " + r, (a || b) && d);
            holds(well, p + " and (" + q + " or " + r + ")", a && (b || d));
            holds(well, "not " + p + " or " + q + " and not " + r, !a || b && !d);
            holds(well, "not (" + p + " or " + q + ") and " + r, !(a || b) && d);
            holds(well, "not not " + p + " and not (" + q + " and " + r + ")", a && !(b && d));
            holds(well, p + " or " + q + " or " + r, a || b || d);
            holds(well, p + " and " + q + " and " + r, a && b && d);
            holds(well, "not (" + p + " or not (" + q + " and not " + r + ")) and " + q, !(a || !(b && !d)) && b);
        }
        holds(well, "(((((holy or yards=1)))))", true);
        holds(well, "not not not not not holy", true);
        StringBuilder or = new StringBuilder("holy");
        for (int i = 0; i < 22; i++) or.append(" or holy");
        holds(well, or + " or yards=1", true);
        holds(well, or + " or holy", false);
        holds(well, or.toString().replace("or holy", "and year=5").replace("holy", "not holy") + " and year=5", true);
    }

    // ---- AHEAD

    private static void ahead() {
        c.says("AHEAD (0 to 100) years, none beyond YEAR 200 (refused by 5): what will be (nothing done by hand).");
        c.says("DEPTH so many years AHEAD (5).");
        c.says("The set who DRINK then (5).");
        c.says("Whose a ROPE is then (NONE with STATUS 0: the WELL's) (2; 5).");
        WellHeirs x = c.with("water 1 bottom 999 sinks 1;person a dies 180;person b of a;rope r of a yards 101 age 1;");
        int[][] most = {{0, 100}, {1, 100}, {99, 100}, {100, 100}, {101, 99}, {150, 50}, {199, 1}, {200, 0}};
        for (int[] one : most) {
            passed(x, one[0]);
            int far = one[1];
            int year = one[0] + far;
            c.due(x, "now", x.depth(0), 1 + one[0], 0);
            c.due(x, "now", x.whoThen(0), x.who(), 0);
            c.due(x, "now", x.owner(0, 0), x.rope(0, 0), 0);
            c.due(x, "DEPTH AHEAD " + far, x.depth(far), 1 + year, 0);
            c.due(x, "who AHEAD " + far, x.whoThen(far), year <= 100 ? 1 : 0, 0);
            c.due(x, "OWNER AHEAD " + far, x.owner(0, far), year < 180 ? 0 : 1, 0);
            c.due(x, "odds AHEAD " + far, x.odds(0, far, 0, 1), true, 0);
            for (int beyond : new int[] {far + 1, 101, -1, MIN, MAX}) {
                c.due(x, "DEPTH AHEAD " + beyond, x.depth(beyond), -1, 5);
                c.due(x, "who AHEAD " + beyond, x.whoThen(beyond), -1, 5);
                c.due(x, "OWNER AHEAD " + beyond, x.owner(0, beyond), -1, 5);
                c.due(x, "odds AHEAD " + beyond, x.odds(0, beyond, 0, 1), false, 5);
            }
            c.due(x, "no YEAR went by", x.many(3), one[0], 0);
        }
        x = c.with("water 5 bottom 99 sinks 1;person a dies 4;person b of a;rope r of a yards 9 age 1;");
        for (int year = 0; year <= 6; year++) {
            c.due(x, "DEPTH, each by itself", x.depth(year), 5 + year, 0);
            c.due(x, "the other way round", x.depth(6 - year), 11 - year, 0);
            c.due(x, "who, each by itself", x.whoThen(year), year < 4 ? 1 : year < 5 ? 2 : 0, 0);
            c.due(x, "the other way round", x.whoThen(6 - year), 6 - year < 4 ? 1 : 6 - year < 5 ? 2 : 0, 0);
            c.due(x, "OWNER, each by itself", x.owner(0, year), year < 4 ? 0 : 1, 0);
            c.due(x, "the other way round", x.owner(0, 6 - year), 6 - year < 4 ? 0 : 1, 0);
        }
        x = c.with("person a dies 4;rope r of a yards 1 age 1;");
        c.due(x, "the YEAR before", x.owner(0, 3), 0, 0);
        c.due(x, "the WELL's", x.owner(0, 4), -1, 0);
        c.due(x, "no such ROPE, ahead of 5", x.owner(1, -1), -1, 2);
    }

    private static void thirst() {
        c.says("THIRST of a PERSON: the first year AHEAD in which it is alive and does not DRINK.");
        c.says("THIRST (2; 8: in none).");
        c.due("now", c.with("person a;").thirst(0), 0);
        String rope = " bottom 999 sinks 1;person a;rope r of a yards 110 age 1;";
        c.due("in 1", c.with("water 110" + rope).thirst(0), 1);
        c.due("in 99", c.with("water 12" + rope).thirst(0), 99);
        c.due("in 100", c.with("water 11" + rope).thirst(0), 100);
        WellHeirs x = c.with("water 10" + rope);
        c.due(x, "in 101: in none", x.thirst(0), -1, 8);
        x.pass(1);
        c.due(x, "a year later it is", x.thirst(0), 100, 0);
        x = passed(c.with("water 0 bottom 999 sinks 1;person a;rope r of a yards 199 age 1;"), 150);
        c.due(x, "in YEAR 200", x.thirst(0), 50, 0);
        c.due("in YEAR 200 itself", passed(x, 200).thirst(0), 0);
        x = passed(c.with("water 0 bottom 999 sinks 1;person a;rope r of a yards 200 age 1;"), 150);
        c.due(x, "in none up to YEAR 200", x.thirst(0), -1, 8);
        c.due("in none in YEAR 200", passed(x, 200).thirst(0), -1);
        String dying = "water 5 bottom 999 sinks 1;person a dies #;rope r of a yards 9 age 1;";
        x = c.with(dying.replace("#", "5"));
        c.due(x, "dead when the ROPE is too short", x.thirst(0), -1, 8);
        x = c.with(dying.replace("#", "6"));
        c.due(x, "alive still", x.thirst(0), 5, 0);
        x.pass(6);
        c.due(x, "dead", x.thirst(0), -1, 8);
        x = c.with("water 5 bottom 99;person a dies 3;person b of a;rope r of b yards 3 age 1;rope s of a yards 5 age 1;");
        c.due(x, "before it inherits", x.thirst(1), 0, 0);
        c.due(x, "no such", x.thirst(2), -1, 2);
        c.due(x, "no such", x.thirst(-1), -1, 2);
        c.due(x, "nothing went by", x.many(3), 0, 0);
    }

    private static void last() {
        c.says("LAST to DRINK: in the last year AHEAD (to 100) in which anybody DRINKS: the least of these.");
        c.says("LAST to DRINK, what 0: who, 1: in how many years (5; 8: nobody).");
        String ropes = " bottom 999 sinks 1;person a;person b;person d;rope r of b yards 109 age 1;rope s of d yards 109 age 1;rope t of a yards 20 age 1;";
        int[][] cases = {{110, 8, 8}, {109, 1, 0}, {108, 1, 1}, {21, 1, 88}, {10, 1, 99}, {9, 1, 100}, {8, 1, 100}, {0, 1, 100}};
        for (int[] one : cases) {
            WellHeirs x = c.with("water " + one[0] + ropes);
            boolean nobody = one[0] == 110;
            c.due(x, "who, from " + one[0], x.last(0), nobody ? -1 : one[1], nobody ? 8 : 0);
            c.due(x, "when, from " + one[0], x.last(1), nobody ? -1 : one[2], nobody ? 8 : 0);
            for (int what : new int[] {-1, 2, MIN, MAX}) c.due(x, "last(" + what + ")", x.last(what), -1, 5);
        }
        WellHeirs x = passed(c.with("person a;person b;rope r of b yards 1 age 1;"), 101);
        c.due(x, "up to YEAR 200", x.last(1), 99, 0);
        c.due(x, "who", x.last(0), 1, 0);
        c.due("in YEAR 200", passed(x, 200).last(1), 0);
        x = c.with("water 9 bottom 9 sinks 1;person a;rope r of a yards 9 age 1;flood 40 to 41 by 99;");
        c.due(x, "DRY years between", x.last(1), 41, 0);
        x = c.with("water 9 bottom 9 sinks 1;person a;person b;rope r of a yards 9 age 1;rope s of b yards 20 age 1;flood 101 to 101 by 999;");
        c.due(x, "not in the 101st", x.last(1), 0, 0);
        c.due("nobody", new WellHeirs().last(1), -1);
        StringBuilder t = new StringBuilder("water 5 bottom 9;");
        for (int i = 0; i < 8; i++) t.append("person ").append(p(i)).append(";");
        for (int i = 0; i < 8; i++) {
            x = c.with(t + "rope r of " + p(i) + " yards 5 age 1;rope s of ph yards 5 age 1;");
            c.due(x, "the least is " + i, x.last(0), i, 0);
        }
    }

    private static void odds() {
        c.says("The FRACTION is with how many of so many seeds (1 to 20) from one on, taken up now, a PERSON DRINKS so many years AHEAD "
            + "(2; 5: the last above 9,999, too).");
        WellHeirs x = c.with("water 9 bottom 99 rain 8 by 5;person a;rope r of a yards 4 age 1;");
        for (int seed : new int[] {0, 1, 4321, 9980}) {
            for (int many : new int[] {1, 2, 19, 20}) {
                int good = 0;
                for (int s = seed; s < seed + many; s++) if (draw(s) < 8) good++;
                c.due(x, "odds", x.odds(0, 1, seed, many), true, 0);
                c.due("with how many of " + many + " from " + seed, x.top() * many, x.bottom() * good);
            }
        }
        c.due(x, "9,999 alone", x.odds(0, 1, 9999, 1), true, 0);
        c.due(x, "9,999 the last", x.odds(0, 1, 9980, 20), true, 0);
        c.due(x, "10,000 the last", x.odds(0, 1, 9981, 20), false, 5);
        c.due(x, "10,000 the last", x.odds(0, 1, 9999, 2), false, 5);
        c.due(x, "10,000 alone", x.odds(0, 1, 10000, 1), false, 5);
        for (int many : new int[] {1, 2, 20}) c.due(x, "from -1", x.odds(0, 1, -1, many), false, 5);
        for (int seed : new int[] {0, 1, 9999}) c.due(x, "none from " + seed, x.odds(0, 1, seed, 0), false, 5);
        for (int many : new int[] {0, 21, -1, MIN, MAX}) c.due(x, "so many: " + many, x.odds(0, 1, 0, many), false, 5);
        for (int seed : new int[] {MIN, MAX}) c.due(x, "from " + seed, x.odds(0, 1, seed, 20), false, 5);
        c.fraction(x, "never now", x.odds(0, 0, 0, 20), 0, 1);
        x.seed(9999);
        int wet = seedOf(0);
        c.fraction(x, "taken up now, not the state", x.odds(0, 1, wet, 1), 1, 1);
        c.due(x, "the state stays", x.many(6), 9999, 0);
        c.fraction(x, "always in DEPTH 0", c.with("person a;rope r of a yards 1 age 1;").odds(0, 0, 0, 20) && x.odds(0, 1, wet, 1), 1, 1);
        c.due(x, "no such PERSON, ahead of 5", x.odds(1, -1, -1, 0), false, 2);
        c.due(x, "no such PERSON", x.odds(-1, 1, 0, 1), false, 2);
    }

    // ---- what is told

    private static void many() {
        c.says("How many PEOPLE (what 0), ROPES that are not GONE (1), RULES (2); YEAR (3), DEPTH (4), BOTTOM (5), the draws' state (6) (5).");
        WellHeirs x = c.with("water 4 bottom 9;person a;person b;rope r of a yards 1 age 1;rope s of a yards 1 age 1;rope t of a yards 1 age 1;", "if holy give each;");
        x.pass(7);
        x.seed(3);
        x.knot(0, 1);
        int[] due = {2, 2, 1, 7, 4, 9, 3};
        for (int what = 0; what < 7; what++) c.due(x, "many(" + what + ")", x.many(what), due[what], 0);
        for (int what : new int[] {-1, 7, MIN, MAX}) c.due(x, "many(" + what + ")", x.many(what), -1, 5);
    }

    private static void person() {
        c.says("Of a PERSON, what 0: whose child it is (8: nobody's), 1: the YEAR in which it DIES (8), 2: 1 if it is alive, else 0, 3: YARDS of its own ROPES, "
            + "4: of those that it HOLDS (2; 5).");
        WellHeirs x = c.with("person a;person b of a dies 1;person d of b dies 200;rope r of a yards 200 age 1;rope s of b yards 3 age 1;");
        x.lend(0, 2);
        int[][] due = {{-8, -8, 1, 200, 0}, {0, 1, 1, 3, 3}, {1, 200, 1, 0, 200}};
        for (int p = 0; p < 3; p++) {
            for (int what = 0; what < 5; what++) {
                boolean none = due[p][what] == -8;
                c.due(x, "person(" + p + ", " + what + ")", x.person(p, what), none ? -1 : due[p][what], none ? 8 : 0);
            }
            for (int what : new int[] {-1, 5, MIN, MAX}) c.due(x, "person(" + p + ", " + what + ")", x.person(p, what), -1, 5);
        }
        for (int p : new int[] {-1, 3, 8, MIN, MAX}) c.due(x, "person(" + p + ", 9)", x.person(p, 9), -1, 2);
        x.pass(1);
        c.due(x, "dead", x.person(1, 2), 0, 0);
        c.due(x, "the dead own nothing", x.person(1, 3), 0, 0);
        c.due(x, "it died", x.person(1, 1), 1, 0);
    }

    private static void rope() {
        c.says("Of a ROPE, what 0: OWNER (NONE with STATUS 0: the WELL's), 1: BORROWER (8: none), 2: PIECES, 3: YARDS, 4: REACH, 5: AGE, 6: 1 if HOLY, else 0, "
            + "7: how it SLIPS (2; 5).");
        WellHeirs x = c.with("person a dies 1;person b;rope r of a yards 3 age 2 yards 4 age 1 holy slips 15;rope s of b yards 1 age 0;");
        int[] first = {0, -8, 2, 7, 6, 2, 1, 15};
        int[] second = {1, -8, 1, 1, 1, 0, 0, 0};
        for (int what = 0; what < 8; what++) {
            c.due(x, "rope(0, " + what + ")", x.rope(0, what), what == 1 ? -1 : first[what], what == 1 ? 8 : 0);
            c.due(x, "rope(1, " + what + ")", x.rope(1, what), what == 1 ? -1 : second[what], what == 1 ? 8 : 0);
        }
        for (int what : new int[] {-1, 8, MIN, MAX}) c.due(x, "rope(0, " + what + ")", x.rope(0, what), -1, 5);
        for (int r : new int[] {-1, 2, 11, 12, MIN, MAX}) c.due(x, "rope(" + r + ", 9)", x.rope(r, 9), -1, 2);
        x.pass(1);
        c.due(x, "the WELL's", x.rope(0, 0), -1, 0);
        x.lend(1, 0);
        c.due(x, "not to the dead", x.rope(1, 1), -1, 8);
        x.lend(0, 1);
        c.due(x, "BORROWER", x.rope(0, 1), 1, 0);
        c.says("Of the k-th PIECE of a ROPE (0 ..), what 0: YARDS, 1: AGE now (2; 5: k, too).");
        c.due(x, "the first", x.piece(0, 0, 0), 3, 0);
        c.due(x, "the first's AGE", x.piece(0, 0, 1), 3, 0);
        c.due(x, "the last", x.piece(0, 1, 0), 4, 0);
        c.due(x, "the last's AGE", x.piece(0, 1, 1), 2, 0);
        for (int k : new int[] {-1, 2, 8, MIN, MAX}) c.due(x, "piece(0, " + k + ", 0)", x.piece(0, k, 0), -1, 5);
        for (int what : new int[] {-1, 2, MIN, MAX}) c.due(x, "piece(0, 0, " + what + ")", x.piece(0, 0, what), -1, 5);
        for (int r : new int[] {-1, 2, 11, 12, MIN, MAX}) c.due(x, "piece(" + r + ", -1, 9)", x.piece(r, -1, 9), -1, 2);
        c.due(x, "one PIECE", x.piece(1, 1, 0), -1, 5);
        String four = " yards 1 age 1 yards 1 age 1 yards 1 age 1 yards 1 age 1;";
        x = c.with("person a;rope r of a" + four + "rope s of a" + four);
        x.knot(0, 1);
        c.due(x, "the eighth PIECE", x.piece(0, 7, 0), 1, 0);
        c.due(x, "a ninth", x.piece(0, 8, 0), -1, 5);
    }

    public static void main(String[] args) {
        numbers();
        owners();
        theTwelfth();
        reach();
        ages();
        depth();
        dry();
        holdsAndDrinks();
        alive();
        sinks();
        rain();
        draws();
        pass();
        lentNoMore();
        byNumbers();
        heirsAre();
        each();
        eachNumbers();
        eachRefused();
        cases();
        binding();
        ahead();
        thirst();
        last();
        odds();
        many();
        person();
        rope();
        c.end("YearBoundariesTest");
    }
}
