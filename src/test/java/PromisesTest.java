/** Each promise of the document by itself: ordinary inputs, the edges that it names, wrong inputs. */
public final class PromisesTest {
    private static final Check c = new Check();
    private static final int MAX = Integer.MAX_VALUE;
    private static final int MIN = Integer.MIN_VALUE;

    /** Ann (dies 10) with bob and cid, dot for herself; ra 15+10 yards, rb 19, rc 40 and holy; water 20, one more each year. */
    private static final String FAMILY = "water 20 bottom 60 sinks 1;person ann dies 10;person bob of ann;person cid of ann dies 30;"
        + "person dot;rope ra of ann yards 15 age 50 yards 10 age 5 slips 4;rope rb of bob yards 19 age 7;"
        + "rope rc of dot yards 40 age 100 holy;flood 3 to 4 by 6;";

    private static String repeat(String s, int n) {
        return s.repeat(n);
    }

    private static void newObject() {
        c.at("1");
        WellHeirs x = new WellHeirs();
        c.due("status", x.status(), 0);
        c.due("top", x.top(), 0);
        c.due("bottom", x.bottom(), 1);
        c.due("fault(0)", x.fault(0), -1);
        c.due("fault(1)", x.fault(1), -1);
        for (int what = 0; what <= 6; what++) c.due(x, "many " + what, x.many(what), 0, 0);
        for (int tray = 0; tray < 4; tray++) c.due(x, "read", x.read(tray, 0), -1, 3);
        c.due(x, "an empty tape", x.well(1), -1, 5);
        c.due(x, "no marks", x.back(), -1, 8);
        c.due(x, "no people", x.person(0, 2), -1, 2);
        c.due(x, "no ropes", x.rope(0, 2), -1, 2);
        c.due("NONE", WellHeirs.NONE, -1);
    }

    private static void status() {
        c.at("2");
        WellHeirs x = new WellHeirs();
        x.many(9);
        c.due("status", x.status(), 5);
        x.feed(0, 0, 0, 0, 0);
        x.fault(7);
        x.top();
        x.bottom();
        c.due("calls without one leave it", x.status(), 5);
        x.who();
        c.due("status", x.status(), 0);
        x.plan();
        c.due("status", x.status(), 8);
    }

    private static void fractions() {
        c.at("3, 4");
        WellHeirs x = c.with("person a;person b;rope r of a yards 10 age 1;rope s of b yards 20 age 1;");
        c.fraction(x, "share(0)", x.share(0), 1, 3);
        c.due(x, "share(5)", x.share(5), false, 2);
        x.best(0);
        c.due("a refused call, and best, leave it: top", x.top(), 1);
        c.due("bottom", x.bottom(), 3);
        x.sell(0, 10, 1);
        c.fraction(x, "0 is 0 by 1", x.share(0), 0, 1);
        x.mark();
        c.fraction(x, "share(1)", x.share(1), 1, 1);
        x.back();
        c.due("a mark does not keep it: top", x.top(), 1);
    }

    private static void tray() {
        c.at("5");
        WellHeirs x = new WellHeirs();
        c.due(x, "tray(0,0,60)", x.tray(0, 0, 60), true, 0);
        c.due(x, "tray(3,3,0)", x.tray(3, 3, 0), true, 0);
        c.due(x, "read of an empty one", x.read(3, 0), -1, 4);
        c.due(x, "tray(4,0,1)", x.tray(4, 0, 1), false, 1);
        c.due(x, "tray(-1,0,1)", x.tray(-1, 0, 1), false, 1);
        c.due(x, "tray(0,4,1)", x.tray(0, 4, 1), false, 1);
        c.due(x, "tray(0,-1,1)", x.tray(0, -1, 1), false, 1);
        c.due(x, "tray(0,9,99)", x.tray(0, 9, 99), false, 1);
        c.due(x, "tray(0,0,61)", x.tray(0, 0, 61), false, 5);
        c.due(x, "tray(0,0,-1)", x.tray(0, 0, -1), false, 6);
        c.due(x, "tray(0,0,MIN)", x.tray(0, 0, MIN), false, 6);
        c.due(x, "tray(0,0,MAX)", x.tray(0, 0, MAX), false, 5);
        c.due(x, "what was refused changed nothing", x.read(0, 59), 0, 0);
        x.write(0, 3, 7);
        x.tray(0, 0, 4);
        c.due(x, "all 0 anew", x.read(0, 3), 0, 0);
        c.due(x, "read(0,4)", x.read(0, 4), -1, 4);
    }

    private static void writeAndRead() {
        c.at("6, 7");
        WellHeirs x = new WellHeirs();
        long v = 0x1234_5678_9ABC_DEF0L;
        long[] cut = {(byte) v, (short) v, (int) v, v};
        for (int sort = 0; sort < 4; sort++) {
            x.tray(sort, sort, 2);
            c.due(x, "write", x.write(sort, 1, v), true, 0);
            c.due(x, "read", x.read(sort, 1), cut[sort], 0);
            x.write(sort, 0, -1);
            c.due(x, "read -1", x.read(sort, 0), -1, 0);
        }
        x.write(0, 0, 128);
        c.due(x, "128 in 8 bits", x.read(0, 0), -128, 0);
        c.due(x, "write(4,0)", x.write(4, 0, 1), false, 1);
        c.due(x, "write(0,2)", x.write(0, 2, 1), false, 4);
        c.due(x, "write(0,-1)", x.write(0, -1, 1), false, 4);
        c.due(x, "read(-1,0)", x.read(-1, 0), -1, 1);
        c.due(x, "read(0,MAX)", x.read(0, MAX), -1, 4);
        c.due(x, "read(0,MIN)", x.read(0, MIN), -1, 4);
        WellHeirs y = new WellHeirs();
        c.due(y, "write to a missing one", y.write(2, 0, 1), false, 3);
        c.due(y, "read of a missing one", y.read(2, -5), -1, 3);
    }

    private static void pour() {
        c.at("8");
        WellHeirs x = new WellHeirs();
        x.tray(0, 2, 5);
        x.tray(1, 2, 3);
        x.tray(2, 1, 3);
        for (int i = 0; i < 5; i++) x.write(0, i, 10 + i);
        c.due(x, "pour", x.pour(0, 2, 1, 0, 3), true, 0);
        for (int i = 0; i < 3; i++) c.due(x, "poured", x.read(1, i), 12 + i, 0);
        c.due(x, "within one, as they were", x.pour(0, 0, 0, 1, 4), true, 0);
        for (int i = 1; i < 5; i++) c.due(x, "poured within", x.read(0, i), 9 + i, 0);
        c.due(x, "pour of none at the end", x.pour(0, 5, 1, 3, 0), true, 0);
        c.due(x, "pour of none from beyond the end", x.pour(0, 6, 1, 0, 0), false, 4);
        c.due(x, "pour of none to beyond the end", x.pour(0, 0, 1, 4, 0), false, 4);
        c.due(x, "no tray", x.pour(0, 0, 4, 0, 1), false, 1);
        c.due(x, "no tray", x.pour(-1, 0, 3, 0, 1), false, 1);
        c.due(x, "missing", x.pour(0, 0, 3, 0, 1), false, 3);
        c.due(x, "missing", x.pour(3, 0, 2, 0, -1), false, 3);
        c.due(x, "unlike ahead of below 0", x.pour(0, 0, 2, 0, -1), false, 11);
        c.due(x, "below 0 ahead of the place", x.pour(0, 9, 1, 0, -1), false, 6);
        c.due(x, "i", x.pour(0, -1, 1, 0, 1), false, 4);
        c.due(x, "j", x.pour(0, 0, 1, -1, 1), false, 4);
        c.due(x, "too few", x.pour(0, 3, 1, 0, 3), false, 4);
        c.due(x, "too few there", x.pour(0, 0, 1, 1, 3), false, 4);
        c.due(x, "far too many", x.pour(0, 1, 1, 1, MAX), false, 4);
        c.due(x, "far away", x.pour(0, MAX, 1, 1, 1), false, 4);
    }

    private static void feed() {
        c.at("9");
        WellHeirs x = new WellHeirs();
        x.many(9);
        for (int i = 1; i <= 45; i++) c.due("feed", x.feed(0x3b3b3b3b, 0, 0, 0, 0), 20 * i);
        c.due("feed beyond 900", x.feed(1, 2, 3, 4, 5), -1);
        c.due("it has no status", x.status(), 5);
        c.due(x, "all 900 are there", x.well(900), -1, 10);
        c.due("the tape is empty then", x.feed(0, 0, 0, 0, 0), 20);
        WellHeirs y = new WellHeirs();
        Check.put(y, "person abcdefgh;pers");
        Check.put(y, "on zyx;             ");
        c.due(y, "bytes come in their order", y.well(27), 2, 0);
    }

    private static void well() {
        c.at("10");
        WellHeirs x = new WellHeirs();
        c.due(x, "an empty well", x.well(0), 0, 0);
        c.due("fault", x.fault(0), 0);
        Check.put(x, "person a;person b of a;");
        c.due(x, "well(-1)", x.well(-1), -1, 5);
        c.due(x, "well(41)", x.well(41), -1, 5);
        c.due(x, "the tape is there still", x.well(23), 2, 0);
        c.due(x, "it is empty then", x.well(1), -1, 5);
        x.law(0);
        Check.law(x, "if holy give well;");
        x.seed(77);
        x.pass(3);
        c.due(x, "a bad one", Check.well(x, "person a;person a;"), -1, 10);
        c.due(x, "the old one stays: people", x.many(0), 2, 0);
        c.due(x, "year", x.many(3), 3, 0);
        c.due(x, "law", x.many(2), 1, 0);
        c.due(x, "the tape is empty", x.well(1), -1, 5);
        c.due("5 is no text: fault", x.fault(0), 3);
        c.due(x, "only the first n", Check.well(x, "person c;"), 1, 0);
        c.due(x, "year", x.many(3), 0, 0);
        c.due(x, "law", x.many(2), 0, 0);
        c.due(x, "seed", x.many(6), 0, 0);
        Check.put(x, "person d;rubbish!");
        c.due(x, "what is behind is not read", x.well(9), 1, 0);
        c.due(x, "words and numbers need no blanks", Check.well(x, "water3bottom 9sinks01rain0002by3;\n\nperson a\n;"), 1, 0);
        c.due(x, "depth", x.many(4), 3, 0);
        c.due(x, "bottom", x.many(5), 9, 0);
        c.due(x, "no word for no one", Check.well(x, "person watery;person we of watery dies 200;rope r of we yards 200 age 300 holy slips 15;"), 2, 0);
        c.due(x, "rope", x.rope(0, 5), 300, 0);
        Check.well(x, "person a;rope r of a yards 1 age 0 yards 2 age 1 yards 3 age 2 yards 4 age 3;flood 5 to 5 by 999;");
        c.due(x, "pieces", x.rope(0, 2), 4, 0);
        c.due(x, "the least numbers", Check.well(x, "water 0 bottom 0 sinks 0 rain 0 by 0;person a dies 1;rope r of a yards 1 age 0 slips 0;flood 0 to 0 by 1;"), 1, 0);
        c.due(x, "the greatest", Check.well(x, "water 999 bottom 999 sinks 99 rain 16 by 99;person a dies 200;flood 200 to 200 by 999;"), 1, 0);
    }

    private static void wellAnew() {
        c.at("10, anew");
        WellHeirs x = c.with("water 9 bottom 9 sinks 2 rain 16 by 1;person a dies 5;person b;rope r of a yards 5 age 4 holy slips 3;rope s of b yards 1 age 1;flood 0 to 200 by 1;",
            "if year < 999 give well;");
        x.lend(0, 1);
        x.seed(55);
        x.pass(1);
        c.due(x, "a well without water", Check.well(x, "person c dies 2;person d of c;rope r of c yards 7 age 6;"), 2, 0);
        int[] due = {2, 1, 0, 0, 0, 0, 0};
        for (int i = 0; i < due.length; i++) c.due(x, "many(" + i + ")", x.many(i), due[i], 0);
        int[] rope = {0, -1, 1, 7, 7, 6, 0, 0};
        for (int i = 0; i < rope.length; i++) c.due(x, "rope(0," + i + ")", x.rope(0, i), rope[i], i == 1 ? 8 : 0);
        c.due(x, "water does not sink", x.depth(9), 0, 0);
        x.pass(2);
        c.due(x, "no rain, no draws", x.many(6), 0, 0);
        c.due(x, "no law", x.rope(0, 0), 1, 0);
        Check.well(x, "water 8 bottom 9;");
        c.due(x, "no flood", x.many(4), 8, 0);
    }

    private static void wellFaults() {
        c.at("10, faults");
        c.badWell("A", 1, 0);
        c.badWell("person a;  \t", 1, 11);
        c.badWell("person a-", 1, 8);
        c.badWell("person " + (char) 233, 1, 7);
        c.badWell("person a" + (char) 0, 1, 8);
        c.badWell("water 00001 bottom 1;", 1, 6);
        c.badWell("water 1 bottom 12345;", 1, 15);
        c.badWell("12345", 1, 0);
        c.badWell("1234", 2, 0);
        c.badWell(";", 2, 0);
        c.badWell("person a;;", 2, 9);
        c.badWell("well;", 2, 0);
        c.badWell("waters 1 bottom 1;", 2, 0);
        c.badWell("water", 2, 5);
        c.badWell("water  \n ", 2, 9);
        c.badWell("water 1 bottom 1", 2, 16);
        c.badWell("water 1 bottom 1 rain 1 by 1 sinks 1;", 2, 29);
        c.badWell("water 1 bottom 1 sinks;", 2, 22);
        c.badWell("water x bottom 1;", 2, 6);
        c.badWell("person ;", 2, 7);
        c.badWell("person 12;", 2, 7);
        c.badWell("person abcdefghi;", 2, 7);
        c.badWell("person a dies 1 of a;", 2, 16);
        c.badWell("person a;person b of abcdefghi;", 2, 21);
        c.badWell("person a;person b of yards;", 2, 21);
        c.badWell("person a;rope r yards 1 age 1;", 2, 16);
        c.badWell("person a;rope r of a;", 2, 20);
        c.badWell("person a;rope r of a holy;", 2, 21);
        c.badWell("person a;rope r of a yards 1;", 2, 28);
        c.badWell("person a;rope r of a yards 1 age 1 slips 1 holy;", 2, 43);
        c.badWell("flood 1 by 1 to 1;", 2, 8);
        c.badWell("person a;rope a of a yards 1 age 1;", 3, 14);
        c.badWell("person a;rope r of a yards 1 age 1;person r;", 3, 42);
        c.badWell("person a;rope r of a yards 1 age 1;rope r of a yards 1 age 1;", 3, 40);
        c.badWell("person a;rope r of r yards 1 age 1;", 3, 19);
        c.badWell("person a;rope r of b yards 1 age 1;person b;", 3, 19);
        c.badWell("person a of b;person b;", 3, 12);
        c.badWell("person a;rope r of a yards 1 age 1;person b of r;", 3, 47);
        c.badWell("water 1000 bottom 1;", 4, 6);
        c.badWell("water 1 bottom 1000;", 4, 15);
        c.badWell("water 1 bottom 1 sinks 100;", 4, 23);
        c.badWell("water 1 bottom 1 rain 17 by 1;", 4, 22);
        c.badWell("water 1 bottom 1 rain 16 by 100;", 4, 28);
        c.badWell("person a dies 0;", 4, 14);
        c.badWell("person a dies 201;", 4, 14);
        c.badWell("person a;rope r of a yards 0 age 1;", 4, 27);
        c.badWell("person a;rope r of a yards 201 age 1;", 4, 27);
        c.badWell("person a;rope r of a yards 1 age 301;", 4, 33);
        c.badWell("person a;rope r of a yards 1 age 1 slips 16;", 4, 41);
        c.badWell("flood 201 to 201 by 1;", 4, 6);
        c.badWell("flood 0 to 201 by 1;", 4, 11);
        c.badWell("flood 5 to 4 by 1;", 4, 11);
        c.badWell("flood 5 to 5 by 0;", 4, 16);
        c.badWell("flood 5 to 5 by 1000;", 4, 16);
        c.badWell("water 1 bottom 1;water !", 5, 17);
        StringBuilder people = new StringBuilder();
        for (int i = 0; i < 8; i++) people.append("person ").append((char) ('a' + i)).append(";");
        c.badWell(people + "person a;", 6, 72);
        String ropes = "";
        for (int i = 0; i < 6; i++) ropes += "rope r" + (char) ('a' + i) + " of a yards 1 age 1;";
        c.badWell("person a;" + ropes + "rope", 6, 9 + ropes.length());
        c.badWell(repeat("flood 1 to 1 by 1;", 4) + "flood", 6, 72);
        c.badWell("person a;rope r of a" + repeat(" yards 1 age 1", 4) + " yards 0;", 6, 20 + 56 + 1);
        for (String word : ("water bottom sinks rain by person of dies rope yards age holy slips flood to if give or and not heirs reaches "
            + "reach knots year eldest youngest poorest each well").split(" ")) {
            c.badWell("person " + word + ";", 2, 7);
        }
    }

    private static void law() {
        c.at("11");
        WellHeirs x = c.with(FAMILY);
        c.due(x, "an empty law", x.law(0), 0, 0);
        Check.put(x, repeat(" ", 320));
        c.due(x, "law(301)", x.law(301), -1, 5);
        c.due(x, "law(-1)", x.law(-1), -1, 5);
        c.due(x, "law(300)", x.law(300), 0, 0);
        c.due(x, "the tape is empty", x.law(1), -1, 5);
        c.due(x, "two rules", Check.law(x, "if not(holy)and year=0 give each;\nif reaches give well;"), 2, 0);
        c.due(x, "a bad one", Check.law(x, "if holy give nobody;"), -1, 10);
        c.due(x, "the old one stays", x.many(2), 2, 0);
        c.due(x, "well stays", x.many(0), 4, 0);
        c.due(x, "twelve", Check.law(x, repeat("if holy give each;", 12)), 12, 0);
        c.due(x, "five nots", Check.law(x, "if " + repeat("not ", 5) + "holy give each;"), 1, 0);
        c.due(x, "five brackets", Check.law(x, "if " + repeat("(", 5) + "holy" + repeat(")", 5) + " give each;"), 1, 0);
        c.due(x, "24 cases", Check.law(x, "if " + repeat("holy or ", 23) + "year<1 give each;"), 1, 0);
        c.due(x, "999", Check.law(x, "if yards<0999 give each;"), 1, 0);
    }

    private static void lawFaults() {
        c.at("11, faults");
        c.badLaw("if holy give each; ?", 1, 19);
        c.badLaw("if yards < 00001 give each;", 1, 11);
        c.badLaw("give", 2, 0);
        c.badLaw("if", 2, 2);
        c.badLaw("if give", 2, 3);
        c.badLaw("if holy = 1 give each;", 2, 8);
        c.badLaw("if yards give each;", 2, 9);
        c.badLaw("if yards ; 3", 2, 9);
        c.badLaw("if yards < holy", 2, 11);
        c.badLaw("if (holy give each;", 2, 9);
        c.badLaw("if holy) give each;", 2, 7);
        c.badLaw("if holy or give each;", 2, 11);
        c.badLaw("if holy and or", 2, 12);
        c.badLaw("if not give", 2, 7);
        c.badLaw("if holy give holy;", 2, 13);
        c.badLaw("if holy give each", 2, 17);
        c.badLaw("if person = 1 give each;", 2, 3);
        c.badLaw("if year = 1000 give each;", 4, 10);
        c.badLaw(repeat("if holy give each;", 12) + "if ?", 6, 216);
        c.badLaw(repeat("if holy give each;", 12) + "holy", 2, 216);
        c.badLaw("if " + repeat("holy or ", 24) + "year = 1 give each;", 6, 195);
        c.badLaw("if " + repeat("not ", 6) + "holy give each;", 7, 27);
        c.badLaw("if " + repeat("(", 6) + "not holy", 7, 9);
        c.badLaw("if " + repeat("(", 6) + "(", 7, 9);
        c.badLaw("if not (not (not (holy or age > 3", 7, 18);
        c.badLaw("if " + repeat("(", 6) + ")", 2, 9);
        c.badLaw("if " + repeat("(", 6) + "", 2, 9);
        c.badLaw("if " + repeat("(", 6) + "!", 1, 9);
        c.badLaw("if " + repeat("holy or ", 24) + repeat("(", 6) + "holy", 6, 201);
        c.badLaw("if " + repeat("holy or ", 24) + repeat("(", 6) + "not", 7, 201);
    }

    private static void fault() {
        c.at("12");
        WellHeirs x = new WellHeirs();
        c.due("ahead of any", x.fault(0), -1);
        x.well(5);
        c.due("ahead of any that is read", x.fault(0), -1);
        x.well(0);
        c.due("without one", x.fault(0), 0);
        c.due("its place", x.fault(1), -1);
        Check.law(x, "if if");
        c.due("fault", x.fault(0), 2);
        c.due("place", x.fault(1), 3);
        c.due("fault(2)", x.fault(2), -1);
        c.due("fault(-1)", x.fault(-1), -1);
        x.law(301);
        c.due("5 leaves it", x.fault(0), 2);
        x.mark();
        x.law(0);
        c.due("without one again", x.fault(0), 0);
        x.back();
        c.due("marks do not keep it", x.fault(0), 0);
    }

    private static void many() {
        c.at("13");
        WellHeirs x = c.with(FAMILY, "if holy give each;if holy give well;");
        int[] due = {4, 3, 2, 0, 20, 60, 0};
        for (int i = 0; i < due.length; i++) c.due(x, "many(" + i + ")", x.many(i), due[i], 0);
        x.seed(9999);
        c.due(x, "draws", x.many(6), 9999, 0);
        x.pass(3);
        c.due(x, "no draw without rain", x.many(6), 9999, 0);
        c.due(x, "year", x.many(3), 3, 0);
        c.due(x, "depth with the flood", x.many(4), 17, 0);
        c.due(x, "many(7)", x.many(7), -1, 5);
        c.due(x, "many(-1)", x.many(-1), -1, 5);
        WellHeirs y = c.with("person a;rope r of a yards 1 age 1;rope s of a yards 1 age 1;");
        y.knot(0, 1);
        c.due(y, "one is gone", y.many(1), 1, 0);
        WellHeirs z = c.with("water 9 bottom 9;flood 0 to 3 by 5;flood 0 to 0 by 5;");
        c.due(z, "floods together, 0 at least", z.many(4), 0, 0);
        c.due(z, "one flood", z.depth(1), 4, 0);
        c.due(z, "its last year", z.depth(3), 4, 0);
        c.due(z, "no flood", z.depth(4), 9, 0);
    }

    private static void person() {
        c.at("14");
        WellHeirs x = c.with(FAMILY);
        c.due(x, "nobody's child", x.person(0, 0), -1, 8);
        c.due(x, "cid's parent", x.person(2, 0), 0, 0);
        c.due(x, "dies", x.person(2, 1), 30, 0);
        c.due(x, "does not die", x.person(3, 1), -1, 8);
        c.due(x, "alive", x.person(0, 2), 1, 0);
        x.lend(0, 1);
        c.due(x, "own", x.person(0, 3), 25, 0);
        c.due(x, "held", x.person(0, 4), 0, 0);
        c.due(x, "own of bob", x.person(1, 3), 19, 0);
        c.due(x, "held by bob", x.person(1, 4), 44, 0);
        c.due(x, "person(4,0)", x.person(4, 0), -1, 2);
        c.due(x, "person(-1,9)", x.person(-1, 9), -1, 2);
        c.due(x, "person(0,5)", x.person(0, 5), -1, 5);
        c.due(x, "person(0,-1)", x.person(0, -1), -1, 5);
        x.pass(9);
        c.due(x, "alive in year 9", x.person(0, 2), 1, 0);
        x.pass(1);
        c.due(x, "not in year 10", x.person(0, 2), 0, 0);
    }

    private static void heirs() {
        c.at("15");
        WellHeirs x = c.with("person a;person b of a;person c of a dies 3;person d of b;person e;person f;person g;person h of a;");
        c.due(x, "heirs(0)", x.heirs(0), 134, 0);
        c.due(x, "heirs(1)", x.heirs(1), 8, 0);
        c.due(x, "heirs(7)", x.heirs(7), 0, 0);
        c.due(x, "heirs(8)", x.heirs(8), -1, 2);
        c.due(x, "heirs(-1)", x.heirs(-1), -1, 2);
        x.pass(3);
        c.due(x, "those alive", x.heirs(0), 130, 0);
    }

    private static void rope() {
        c.at("16");
        WellHeirs x = c.with(FAMILY);
        int[] due = {0, -1, 2, 25, 24, 50, 0, 4};
        for (int i = 0; i < due.length; i++) c.due(x, "rope(0," + i + ")", x.rope(0, i), due[i], i == 1 ? 8 : 0);
        c.due(x, "holy", x.rope(2, 6), 1, 0);
        c.due(x, "slips without", x.rope(2, 7), 0, 0);
        c.due(x, "rope(0,8)", x.rope(0, 8), -1, 5);
        c.due(x, "rope(0,-1)", x.rope(0, -1), -1, 5);
        c.due(x, "rope(3,9)", x.rope(3, 9), -1, 2);
        c.due(x, "rope(12,0)", x.rope(12, 0), -1, 2);
        c.due(x, "rope(-1,0)", x.rope(-1, 0), -1, 2);
        x.pass(7);
        c.due(x, "age", x.rope(0, 5), 57, 0);
        x.lend(0, 3);
        c.due(x, "borrower", x.rope(0, 1), 3, 0);
        WellHeirs y = c.with("person a dies 1;rope r of a yards 1 age 0;");
        c.due(y, "age 0", y.rope(0, 5), 0, 0);
        y.pass(1);
        c.due(y, "the well's", y.rope(0, 0), -1, 0);
    }

    private static void piece() {
        c.at("17");
        WellHeirs x = c.with(FAMILY);
        x.pass(2);
        c.due(x, "yards", x.piece(0, 0, 0), 15, 0);
        c.due(x, "age now", x.piece(0, 0, 1), 52, 0);
        c.due(x, "yards", x.piece(0, 1, 0), 10, 0);
        c.due(x, "age now", x.piece(0, 1, 1), 7, 0);
        c.due(x, "piece(0,2,0)", x.piece(0, 2, 0), -1, 5);
        c.due(x, "piece(0,-1,0)", x.piece(0, -1, 0), -1, 5);
        c.due(x, "piece(0,0,2)", x.piece(0, 0, 2), -1, 5);
        c.due(x, "piece(0,0,-1)", x.piece(0, 0, -1), -1, 5);
        c.due(x, "piece(3,9,9)", x.piece(3, 9, 9), -1, 2);
    }

    private static void seed() {
        c.at("18");
        WellHeirs x = c.with("water 50 bottom 99 sinks 3 rain 9 by 5;");
        c.due(x, "seed(7)", x.seed(7), true, 0);
        x.pass(1);
        c.due(x, "state", x.many(6), 28618, 0);
        c.due(x, "a draw of 9 is not below 9", x.many(4), 53, 0);
        x.pass(1);
        int s = (28618 * 2801 + 9011) % 65536;
        c.due(x, "it goes on", x.many(6), s, 0);
        c.due(x, "depth", x.many(4), 56 - (s / 8 % 16 < 9 ? 5 : 0), 0);
        c.due(x, "seed(9999)", x.seed(9999), true, 0);
        c.due(x, "seed(0)", x.seed(0), true, 0);
        c.due(x, "seed(10000)", x.seed(10000), false, 5);
        c.due(x, "seed(-1)", x.seed(-1), false, 5);
        c.due(x, "it stays", x.many(6), 0, 0);
        WellHeirs y = c.with("water 50 bottom 99 sinks 3 rain 10 by 5;");
        y.seed(7);
        y.pass(1);
        c.due(y, "a draw of 9 is below 10", y.many(4), 48, 0);
    }

    private static void pass() {
        c.at("19");
        WellHeirs x = c.with("water 990 bottom 999 sinks 4;");
        c.due(x, "pass(2)", x.pass(2), 2, 0);
        c.due(x, "water", x.many(4), 998, 0);
        x.pass(1);
        c.due(x, "999 at most", x.many(4), 999, 0);
        c.due(x, "pass(0)", x.pass(0), -1, 5);
        c.due(x, "pass(51)", x.pass(51), -1, 5);
        c.due(x, "pass(-1)", x.pass(-1), -1, 5);
        c.due(x, "pass(MAX)", x.pass(MAX), -1, 5);
        for (int year = 53; year <= 153; year += 50) c.due(x, "pass(50)", x.pass(50), year, 0);
        c.due(x, "pass(48)", x.pass(48), -1, 5);
        c.due(x, "pass(47)", x.pass(47), 200, 0);
        c.due(x, "pass(1)", x.pass(1), -1, 5);
        WellHeirs y = c.with("water 3 bottom 9 sinks 1 rain 16 by 9;");
        y.pass(1);
        c.due(y, "0 at least", y.many(4), 0, 0);
    }

    private static final String HEIRS = "water 10 bottom 99;person a dies 5;person b of a;person c of a;person d of a dies 5;person e;";

    private static void inherit() {
        c.at("19, deaths");
        WellHeirs x = c.with(HEIRS + "rope r of a yards 9 age 1;");
        x.pass(5);
        c.due(x, "eldest without a law", x.rope(0, 0), 1, 0);
        x = c.with(HEIRS + "rope r of a yards 9 age 1;", "if year = 5 give youngest;");
        x.pass(5);
        c.due(x, "youngest; d dies too", x.rope(0, 0), 2, 0);
        x = c.with(HEIRS + "person f of a;person g;person h of a;rope r of a yards 9 age 1;", "if year = 5 give youngest;");
        x.pass(5);
        c.due(x, "youngest of the most", x.rope(0, 0), 7, 0);
        x = c.with(HEIRS + "rope r of a yards 9 age 1;rope s of b yards 1 age 1;rope t of c yards 1 age 1;", "if year = 5 give poorest;");
        x.pass(5);
        c.due(x, "poorest, of several the least", x.rope(0, 0), 1, 0);
        x = c.with(HEIRS + "rope r of a yards 9 age 1;rope s of b yards 2 age 1;rope t of c yards 1 age 1;rope u of a yards 2 age 1;",
            "if year = 5 give poorest;");
        x.pass(5);
        c.due(x, "poorest", x.rope(0, 0), 2, 0);
        c.due(x, "what was inherited counts", x.rope(3, 0), 1, 0);
        x = c.with(HEIRS + "rope r of a yards 9 age 1;", "if year = 5 give poorest;");
        x.lend(0, 1);
        x.pass(5);
        c.due(x, "lent no more when it is asked who is poorest", x.rope(0, 0), 1, 0);
        c.due(x, "lent no more", x.rope(0, 1), -1, 8);
        x = c.with(HEIRS + "rope r of a yards 9 age 1;rope s of a yards 5 age 1;", "if year = 5 give poorest;");
        x.lend(1, 1);
        x.pass(5);
        c.due(x, "what comes later is held by b still", x.rope(0, 0), 2, 0);
        x = c.with(HEIRS + "rope r of a yards 9 age 1;", "if year = 5 give well;");
        x.pass(5);
        c.due(x, "the well's", x.rope(0, 0), -1, 0);
        x = c.with(HEIRS + "rope r of d yards 9 age 1;rope s of e yards 3 age 3;", "if year > 0 give each;");
        x.lend(1, 0);
        x.pass(4);
        c.due(x, "a has it", x.rope(1, 1), 0, 0);
        x.pass(1);
        c.due(x, "without heirs the well's", x.rope(0, 0), -1, 0);
        c.due(x, "what a had borrowed is lent no more", x.rope(1, 1), -1, 8);
        c.due(x, "and e's", x.rope(1, 0), 4, 0);
    }

    private static void inheritEach() {
        c.at("19, each");
        String each = "if year = 5 give each;";
        WellHeirs x = c.with(HEIRS + "person f of a;rope r of a yards 3 age 1 yards 2 age 9 yards 6 age 3 slips 7;rope s of e yards 1 age 1;", each);
        x.pass(5);
        c.due(x, "ropes", x.many(1), 4, 0);
        int[][] parts = {{0, 1, 4}, {2, 2, 4}, {3, 5, 3}};
        for (int[] part : parts) {
            c.due(x, "owner", x.rope(part[0], 0), part[1], 0);
            c.due(x, "yards", x.rope(part[0], 3), part[2], 0);
            c.due(x, "slips", x.rope(part[0], 7), 7, 0);
        }
        c.due(x, "cut within", x.piece(0, 1, 0), 1, 0);
        c.due(x, "age", x.piece(0, 1, 1), 14, 0);
        c.due(x, "second", x.piece(2, 0, 0), 1, 0);
        c.due(x, "second's end", x.piece(2, 1, 0), 3, 0);
        c.due(x, "third", x.rope(3, 2), 1, 0);
        x = c.with(HEIRS + "rope r of a yards 9 age 1 holy;", each);
        x.pass(5);
        c.due(x, "a holy one to the eldest", x.rope(0, 0), 1, 0);
        c.due(x, "whole", x.rope(0, 3), 9, 0);
        x = c.with(HEIRS + "rope r of a yards 1 age 1;rope s of a yards 2 age 1;", each);
        x.pass(5);
        c.due(x, "fewer yards than heirs: to the eldest", x.rope(0, 0), 1, 0);
        c.due(x, "as many: shared", x.rope(2, 0), 2, 0);
        x = c.with(HEIRS + "rope r of a yards 9 age 1;rope s of e yards 50 age 1;", each);
        for (int i = 0; i < 9; i++) x.cut(1, 1);
        c.due(x, "eleven ropes", x.many(1), 11, 0);
        x.mark();
        x.pass(5);
        c.due(x, "twelve may be", x.rope(0, 3), 5, 0);
        c.due(x, "c's", x.rope(11, 0), 2, 0);
        x.back();
        x.cut(1, 1);
        x.pass(5);
        c.due(x, "thirteen may not: to the eldest", x.rope(0, 3), 9, 0);
        c.due(x, "b's", x.rope(0, 0), 1, 0);
        x = c.with(HEIRS + "person f of a;rope r of a yards 9 age 1;rope s of e yards 50 age 1;", each);
        for (int i = 0; i < 9; i++) x.cut(1, 1);
        x.pass(5);
        c.due(x, "eleven and two more: to the eldest, whole", x.rope(0, 3), 9, 0);
        c.due(x, "eleven still", x.many(1), 11, 0);
    }

    private static void lawWords() {
        c.at("19, law");
        // The rope: 9 yards, 2 pieces, reach 8, age 20 + 5; two heirs, year 5, depth 8.
        String well = "water 3 bottom 99 sinks 1;person a dies 5;person b of a;person c of a;rope r of a yards 4 age 20 yards 5 age 3;";
        String[] so = {"yards=9", "yards>8", "yards<10", "reach=8", "knots=1", "age=25", "heirs=2", "year=5", "reaches", "not holy",
            "holy or reaches", "reaches or holy and holy", "(holy or reaches) and not holy", "not not reaches", "not (holy and reaches)",
            "holy and holy or reaches", "not holy and reaches", "holy or holy or reaches", "reaches and reaches and reaches"};
        String[] not = {"yards=8", "yards>9", "yards<9", "reach>8", "knots>1", "age<25", "heirs>2", "year<5", "holy", "not reaches",
            "holy and reaches", "(reaches or holy) and holy", "not (holy or reaches)", "not not holy", "reaches and holy or holy",
            "not reaches or holy", "reaches and reaches and holy"};
        for (String one : so) {
            WellHeirs x = c.with(well, "if " + one + " give youngest;if year = 5 give well;");
            x.pass(5);
            c.due(x, one, x.rope(0, 0), 2, 0);
        }
        for (String one : not) {
            WellHeirs x = c.with(well, "if " + one + " give youngest;if year = 4 give well;");
            x.pass(5);
            c.due(x, one + " is not so, nor the next: eldest", x.rope(0, 0), 1, 0);
        }
        WellHeirs x = c.with("water 4 bottom 99 sinks 1;person a dies 5;person b of a;rope r of a yards 4 age 20 yards 5 age 3;", "if reaches give well;");
        x.pass(5);
        c.due(x, "reaches is asked by the depth of that year", x.rope(0, 0), 1, 0);
        x = c.with("water 5 bottom 4;person a dies 5;person b of a;rope r of a yards 9 age 2;", "if reaches give well;");
        x.pass(5);
        c.due(x, "reaches is not asked by the bottom", x.rope(0, 0), -1, 0);
    }

    private static void drinks() {
        c.at("20, 21");
        WellHeirs x = c.with("water 10 bottom 10;person a;person b;person c dies 1;rope r of a yards 10 age 1;rope s of b yards 5 age 1 yards 5 age 1;"
            + "rope t of c yards 99 age 1;");
        c.due(x, "a", x.drinks(0), 1, 0);
        c.due(x, "a knot takes a yard", x.drinks(1), 0, 0);
        c.due(x, "drinks(3)", x.drinks(3), -1, 2);
        c.due(x, "drinks(-1)", x.drinks(-1), -1, 2);
        c.due(x, "who", x.who(), 5, 0);
        x.lend(0, 1);
        c.due(x, "who borrowed drinks, who lent does not", x.who(), 6, 0);
        x.dig(-1);
        c.due(x, "dry", x.who(), 0, 0);
        x.dig(1);
        x.pass(1);
        c.due(x, "the dead do not", x.who(), 2, 0);
        WellHeirs y = c.with("person a;person b;rope r of a yards 1 age 1;");
        c.due(y, "at depth 0 a rope is needed still", y.who(), 1, 0);
    }

    private static void ahead() {
        c.at("22, 23, 24");
        WellHeirs x = c.with(FAMILY, "if holy give well;");
        c.due(x, "depth(0)", x.depth(0), 20, 0);
        c.due(x, "depth(4)", x.depth(4), 18, 0);
        c.due(x, "depth(100)", x.depth(100), 120, 0);
        c.due(x, "depth(101)", x.depth(101), -1, 5);
        c.due(x, "depth(-1)", x.depth(-1), -1, 5);
        c.due(x, "whoThen(0)", x.whoThen(0), 9, 0);
        c.due(x, "whoThen(3)", x.whoThen(3), 11, 0);
        c.due(x, "whoThen(21)", x.whoThen(21), 0, 0);
        c.due(x, "whoThen(101)", x.whoThen(101), -1, 5);
        c.due(x, "owner(0,9)", x.owner(0, 9), 0, 0);
        c.due(x, "owner(0,10)", x.owner(0, 10), 1, 0);
        c.due(x, "owner(3,-1)", x.owner(3, -1), -1, 2);
        c.due(x, "owner(0,-1)", x.owner(0, -1), -1, 5);
        c.due(x, "owner(0,101)", x.owner(0, 101), -1, 5);
        c.due(x, "nothing happened", x.many(3), 0, 0);
        for (int i = 0; i < 3; i++) x.pass(50);
        c.due(x, "depth(50)", x.depth(50), 220, 0);
        c.due(x, "beyond year 200", x.depth(51), -1, 5);
        c.due(x, "beyond year 200", x.whoThen(51), -1, 5);
        c.due(x, "beyond year 200", x.owner(0, 51), -1, 5);
        WellHeirs y = c.with("person a dies 4;rope r of a yards 1 age 1;");
        c.due(y, "the well's", y.owner(0, 4), -1, 0);
        WellHeirs z = c.with("water 90 bottom 99 rain 8 by 3;");
        z.seed(1234);
        int then = z.depth(20);
        int state = z.many(6);
        c.due("ahead the draws do not move", state, 1234);
        z.pass(20);
        c.due("ahead it rains as it will", z.many(4), then);
    }

    private static void thirstAndLast() {
        c.at("25, 26");
        WellHeirs x = c.with(FAMILY);
        c.due(x, "thirst(0)", x.thirst(0), 5, 0);
        c.due(x, "thirst(1)", x.thirst(1), 0, 0);
        c.due(x, "thirst(4)", x.thirst(4), -1, 2);
        c.due(x, "last(0)", x.last(0), 3, 0);
        c.due(x, "last(1)", x.last(1), 20, 0);
        c.due(x, "last(2)", x.last(2), -1, 5);
        c.due(x, "last(-1)", x.last(-1), -1, 5);
        x.pass(30);
        c.due(x, "the dead do not thirst", x.thirst(0), -1, 8);
        c.due(x, "nobody drinks", x.last(0), -1, 8);
        c.due(x, "nobody drinks", x.last(1), -1, 8);
        WellHeirs y = c.with("water 1 bottom 9;person a dies 7;person b;person c;rope r of c yards 9 age 1;rope s of b yards 9 age 1;rope t of a yards 1 age 1;");
        c.due(y, "in none", y.thirst(0), -1, 8);
        c.due(y, "the least of these", y.last(0), 1, 0);
        c.due(y, "100 at most", y.last(1), 100, 0);
        for (int i = 0; i < 3; i++) y.pass(50);
        c.due(y, "year 200 at most", y.last(1), 50, 0);
        WellHeirs z = c.with("water 9 bottom 999 sinks 1;person a;rope r of a yards 108 age 1;");
        c.due(z, "in the 100th year", z.thirst(0), 100, 0);
        WellHeirs v = c.with("water 8 bottom 999 sinks 1;person a;rope r of a yards 108 age 1;");
        c.due(v, "not within 100", v.thirst(0), -1, 8);
    }

    private static void odds() {
        c.at("27");
        WellHeirs x = c.with("water 9 bottom 99 rain 8 by 5;person a;rope r of a yards 4 age 1;");
        int good = 0;
        for (int seed = 100; seed < 120; seed++) if ((seed * 2801 + 9011) % 65536 / 8 % 16 < 8) good++;
        x.odds(0, 1, 100, 20);
        c.due("some do, some do not", good > 0 && good < 20, true);
        c.due("as many as counted", x.top() * 20, x.bottom() * good);
        int first = (9011 / 8 % 16 < 8) ? 1 : 0;
        c.fraction(x, "one seed alone", x.odds(0, 1, 0, 1), first, 1);
        c.fraction(x, "none now", x.odds(0, 0, 0, 20), 0, 1);
        c.due(x, "odds(1,..)", x.odds(1, 900, 0, 1), false, 2);
        c.due(x, "ahead", x.odds(0, 101, 0, 1), false, 5);
        c.due(x, "ahead", x.odds(0, -1, 0, 1), false, 5);
        c.due(x, "seed", x.odds(0, 1, -1, 3), false, 5);
        c.due(x, "many", x.odds(0, 1, 0, 0), false, 5);
        c.due(x, "many", x.odds(0, 1, 0, 21), false, 5);
        c.due(x, "the last", x.odds(0, 1, 9990, 11), false, 5);
        c.due(x, "the last is 9999", x.odds(0, 1, 9990, 10), true, 0);
        c.due(x, "far", x.odds(0, 1, MAX, 20), false, 5);
        c.due(x, "the state stays", x.many(6), 0, 0);
        for (int i = 0; i < 3; i++) x.pass(50);
        c.due(x, "beyond year 200", x.odds(0, 51, 0, 1), false, 5);
    }

    private static final String TWO = "water 10 bottom 99;person a;person b;person c dies 9;";

    private static void knot() {
        c.at("28");
        WellHeirs x = c.with(TWO + "rope r of a yards 5 age 1 slips 3;rope s of a yards 6 age 2 yards 7 age 3 slips 9;rope t of b yards 1 age 1;"
            + "rope u of a yards 1 age 1 holy;");
        c.due(x, "knot(0,1)", x.knot(0, 1), 3, 0);
        c.due(x, "yards", x.rope(0, 3), 18, 0);
        c.due(x, "second behind first", x.piece(0, 2, 0), 7, 0);
        c.due(x, "slips as the one that slips more", x.rope(0, 7), 9, 0);
        c.due(x, "gone", x.rope(1, 0), -1, 2);
        c.due(x, "with a gone one", x.knot(0, 1), -1, 2);
        c.due(x, "one and the same", x.knot(0, 0), -1, 2);
        c.due(x, "no such", x.knot(0, 12), -1, 2);
        c.due(x, "no such", x.knot(-1, 0), -1, 2);
        c.due(x, "of another", x.knot(0, 2), -1, 9);
        c.due(x, "holy", x.knot(0, 3), -1, 9);
        c.due(x, "holy", x.knot(3, 0), -1, 9);
        c.due(x, "its number is the next one's", x.cut(0, 3), 1, 0);
        x.lend(1, 1);
        c.due(x, "lent", x.knot(0, 1), -1, 9);
        c.due(x, "lent", x.knot(1, 0), -1, 9);
        String four = " yards 1 age 1 yards 1 age 1 yards 1 age 1 yards 1 age 1;";
        WellHeirs y = c.with(TWO + "rope r of a" + four + "rope s of a" + four + "rope t of b" + four);
        c.due(y, "eight pieces", y.knot(0, 1), 8, 0);
        c.due(y, "nine, of another one: 7 is ahead of 9", y.knot(0, 2), -1, 7);
        c.due(y, "nothing changed", y.rope(2, 2), 4, 0);
        WellHeirs z = c.with("person a dies 1;rope r of a yards 2 age 1;rope s of a yards 3 age 1;");
        z.pass(1);
        c.due(z, "two of the well's", z.knot(1, 0), 2, 0);
    }

    private static void undo() {
        c.at("29");
        WellHeirs x = c.with(TWO + "rope r of a yards 5 age 1 yards 6 age 2 yards 7 age 3 slips 9;rope s of b yards 1 age 1 yards 1 age 1 holy;");
        c.due(x, "undo(0,0)", x.undo(0, 0), -1, 5);
        c.due(x, "undo(0,3)", x.undo(0, 3), -1, 5);
        c.due(x, "undo(2,1)", x.undo(2, 1), -1, 2);
        c.due(x, "holy", x.undo(1, 1), -1, 9);
        c.due(x, "undo(0,1)", x.undo(0, 1), 2, 0);
        c.due(x, "kept", x.rope(0, 3), 5, 0);
        c.due(x, "new", x.rope(2, 3), 13, 0);
        c.due(x, "new's pieces", x.rope(2, 2), 2, 0);
        c.due(x, "age", x.piece(2, 0, 1), 2, 0);
        c.due(x, "owner", x.rope(2, 0), 0, 0);
        c.due(x, "slips alike", x.rope(2, 7), 9, 0);
        x.lend(2, 1);
        c.due(x, "lent", x.undo(2, 1), -1, 9);
        x.takeBack(2);
        for (int i = 0; i < 9; i++) x.cut(2, 1);
        c.due(x, "twelve", x.many(1), 12, 0);
        c.due(x, "7 ahead of 9", x.undo(1, 1), -1, 7);
        c.due(x, "5 ahead of 7", x.undo(1, 2), -1, 5);
    }

    private static void cut() {
        c.at("30");
        WellHeirs x = c.with(TWO + "rope r of a yards 5 age 1 yards 6 age 2 yards 7 age 3 slips 9;rope s of b yards 9 age 1 holy;");
        c.due(x, "cut(0,0)", x.cut(0, 0), -1, 5);
        c.due(x, "cut(0,18)", x.cut(0, 18), -1, 5);
        c.due(x, "cut(0,MIN)", x.cut(0, MIN), -1, 5);
        c.due(x, "cut(2,1)", x.cut(2, 1), -1, 2);
        c.due(x, "holy", x.cut(1, 1), -1, 9);
        c.due(x, "cut(0,9)", x.cut(0, 9), 2, 0);
        c.due(x, "kept", x.rope(0, 3), 9, 0);
        c.due(x, "kept pieces", x.rope(0, 2), 2, 0);
        c.due(x, "new", x.rope(2, 3), 9, 0);
        c.due(x, "cut within", x.piece(2, 0, 0), 2, 0);
        c.due(x, "age", x.piece(2, 0, 1), 2, 0);
        c.due(x, "the end", x.piece(2, 1, 0), 7, 0);
        c.due(x, "slips", x.rope(2, 7), 9, 0);
        c.due(x, "owner", x.rope(2, 0), 0, 0);
        c.due(x, "at a knot", x.cut(2, 7), 3, 0);
        c.due(x, "one piece", x.rope(2, 2), 1, 0);
        c.due(x, "one piece", x.rope(3, 2), 1, 0);
        x.lend(3, 1);
        c.due(x, "lent", x.cut(3, 1), -1, 9);
        x.takeBack(3);
        for (int i = 0; i < 6; i++) c.due(x, "cut(0,1)", x.cut(0, 1), 4 + i, 0);
        x.cut(3, 1);
        x.cut(3, 1);
        c.due(x, "there are 12", x.cut(3, 1), -1, 7);
        c.due(x, "7 ahead of 9", x.cut(1, 1), -1, 7);
        c.due(x, "5 ahead of 7", x.cut(1, 9), -1, 5);
    }

    private static void sell() {
        c.at("31");
        WellHeirs x = c.with(TWO + "rope r of a yards 20 age 1 slips 5;rope s of b yards 9 age 1 holy;");
        // a drinks, b and c do not.
        c.due(x, "sell(0,8,1)", x.sell(0, 8, 1), 24, 0);
        c.due(x, "new owner", x.rope(2, 0), 1, 0);
        c.due(x, "yards", x.rope(2, 3), 8, 0);
        c.due(x, "slips", x.rope(2, 7), 5, 0);
        c.due(x, "kept", x.rope(0, 0), 0, 0);
        c.due(x, "all: as it is ahead of the sale", x.sell(0, 12, 2), 36, 0);
        c.due(x, "the rope itself", x.rope(0, 0), 2, 0);
        c.due(x, "ropes", x.many(1), 3, 0);
        c.due(x, "its owner", x.sell(0, 1, 2), -1, 9);
        c.due(x, "holy", x.sell(1, 9, 0), -1, 9);
        c.due(x, "more than it has", x.sell(0, 13, 0), -1, 5);
        c.due(x, "sell(0,0,0)", x.sell(0, 0, 0), -1, 5);
        c.due(x, "sell(0,-3,0)", x.sell(0, -3, 0), -1, 5);
        c.due(x, "no person", x.sell(0, 0, 3), -1, 2);
        c.due(x, "no rope", x.sell(5, 0, 0), -1, 2);
        x.lend(0, 0);
        c.due(x, "lent", x.sell(0, 1, 1), -1, 9);
        x.pass(9);
        c.due(x, "not alive", x.sell(2, 1, 2), -1, 9);
        c.due(x, "the well's is sold too", x.sell(0, 2, 1), 6, 0);
        WellHeirs y = c.with(TWO + "rope r of a yards 40 age 1;rope s of a yards 9 age 1 holy;");
        for (int i = 0; i < 10; i++) y.cut(0, 1);
        c.due(y, "there are 12", y.sell(0, 1, 1), -1, 7);
        c.due(y, "7 ahead of 9", y.sell(1, 1, 1), -1, 7);
        c.due(y, "all of it needs no new one", y.sell(0, 30, 1), 90, 0);
        c.due(y, "all of a holy one", y.sell(1, 9, 1), -1, 9);
    }

    private static void lendAndTakeBack() {
        c.at("32, 33");
        WellHeirs x = c.with(TWO + "rope r of a yards 20 age 1;rope s of b yards 9 age 1 holy;rope t of b yards 4 age 1;");
        c.due(x, "lend(0,1)", x.lend(0, 1), 33, 0);
        c.due(x, "lent already", x.lend(0, 2), -1, 9);
        c.due(x, "its owner", x.lend(1, 1), -1, 9);
        c.due(x, "a holy one", x.lend(1, 2), 9, 0);
        c.due(x, "no rope", x.lend(3, 1), -1, 2);
        c.due(x, "no person", x.lend(2, 3), -1, 2);
        c.due(x, "take back", x.takeBack(1), 2, 0);
        c.due(x, "not lent", x.takeBack(1), -1, 8);
        c.due(x, "no rope", x.takeBack(12), -1, 2);
        c.due(x, "no rope", x.takeBack(-1), -1, 2);
        x.pass(9);
        c.due(x, "not alive", x.lend(2, 2), -1, 9);
        c.due(x, "take back", x.takeBack(0), 1, 0);
        WellHeirs y = c.with("person a dies 1;person b;rope r of a yards 2 age 1;");
        y.pass(1);
        c.due(y, "the well's is lent too", y.lend(0, 1), 2, 0);
    }

    private static void dig() {
        c.at("34");
        WellHeirs x = c.with("water 1 bottom 950;");
        c.due(x, "dig(1)", x.dig(1), 951, 0);
        c.due(x, "dig(99)", x.dig(99), 999, 0);
        c.due(x, "dig(-99)", x.dig(-99), 900, 0);
        for (int bad : new int[] {0, 100, -100, MAX, MIN}) c.due(x, "dig(" + bad + ")", x.dig(bad), -1, 5);
        c.due(x, "bottom", x.many(5), 900, 0);
        WellHeirs y = new WellHeirs();
        c.due(y, "dig(5)", y.dig(5), 5, 0);
        c.due(y, "a stone, 0 at least", y.dig(-6), 0, 0);
    }

    private static void led() {
        c.at("35");
        WellHeirs x = c.with(FAMILY);
        x.pass(1);
        c.due(x, "led(0,0)", x.led(0, 0), 51, 0);
        c.due(x, "led(0,14)", x.led(0, 14), 51, 0);
        c.due(x, "led(0,15)", x.led(0, 15), 6, 0);
        c.due(x, "led(0,24)", x.led(0, 24), 6, 0);
        c.due(x, "led(0,25)", x.led(0, 25), -1, 5);
        c.due(x, "led(0,-1)", x.led(0, -1), -1, 5);
        c.due(x, "led(0,MAX)", x.led(0, MAX), -1, 5);
        c.due(x, "led(3,-1)", x.led(3, -1), -1, 2);
    }

    private static void shareHeirloomYards() {
        c.at("36");
        WellHeirs x = c.with(FAMILY);
        x.lend(0, 3);
        c.fraction(x, "share(0), lent or not", x.share(0), 25, 84);
        c.fraction(x, "share(2)", x.share(2), 0, 1);
        c.due(x, "share(4)", x.share(4), false, 2);
        WellHeirs y = c.with("person a;");
        c.due(y, "no ropes", y.share(0), false, 8);
        WellHeirs z = c.with("person a dies 1;person b;rope r of a yards 3 age 1;rope s of b yards 5 age 1;");
        z.pass(1);
        c.fraction(z, "the well's count among all", z.share(1), 5, 8);

        c.at("37");
        x = c.with("person a;person b;rope r of a yards 1 age 3;rope s of a yards 1 age 1 yards 1 age 9;rope t of b yards 1 age 99;rope u of a yards 1 age 9;");
        x.lend(1, 1);
        c.due(x, "heirloom(0): lent or not, of several the first", x.heirloom(0), 1, 0);
        c.due(x, "heirloom(2)", x.heirloom(2), -1, 2);
        c.due(y, "none", y.heirloom(0), -1, 8);
        WellHeirs young = c.with("person a;rope r of a yards 1 age 0;");
        c.due(young, "of age 0", young.heirloom(0), 0, 0);

        c.at("38");
        x = c.with(FAMILY);
        c.due(x, "yardsOf(5,5): each yard has its own age", x.yardsOf(5, 5), 10, 0);
        c.due(x, "yardsOf(5,7)", x.yardsOf(5, 7), 29, 0);
        c.due(x, "yardsOf(8,49)", x.yardsOf(8, 49), 0, 0);
        c.due(x, "yardsOf(0,MAX)", x.yardsOf(0, MAX), 84, 0);
        c.due(x, "yardsOf(-1,3)", x.yardsOf(-1, 3), -1, 5);
        c.due(x, "yardsOf(4,3)", x.yardsOf(4, 3), -1, 5);
        x.pass(2);
        c.due(x, "yardsOf(7,7)", x.yardsOf(7, 7), 10, 0);
    }

    private static void needed() {
        c.at("39");
        WellHeirs x = c.with("water 5 bottom 9;person a;person b;person c;rope r of a yards 5 age 1;rope s of a yards 6 age 1;rope t of b yards 5 age 1;"
            + "rope u of b yards 4 age 1;rope v of c yards 4 age 1;");
        c.due(x, "needed", x.needed(), 4, 0);
        x.lend(0, 2);
        c.due(x, "a lent one by who borrowed it", x.needed(), 7, 0);
        x.dig(-9);
        c.due(x, "dry", x.needed(), 0, 0);
    }

    private static void planAndSpread() {
        c.at("40, 41");
        WellHeirs x = c.with("water 10 bottom 10;person a;person b;person c dies 3;rope r of a yards 10 age 1;rope s of a yards 5 age 1;rope t of a yards 6 age 1;"
            + "rope u of a yards 4 age 1;rope v of a yards 4 age 1;rope w of a yards 4 age 1;");
        // 10 alone; 5 + 6 - 1 by a knot; 4 + 4 + 4 - 2 by two.
        c.due(x, "spread(0)", x.spread(0), 1, 0);
        c.due(x, "plan", x.plan(), 3, 0);
        c.due(x, "spread(1)", x.spread(1), 2, 0);
        c.due(x, "spread(2)", x.spread(2), 2, 0);
        c.due(x, "spread(3)", x.spread(3), 3, 0);
        c.due(x, "spread(11)", x.spread(11), 3, 0);
        c.due(x, "spread(12)", x.spread(12), -1, 5);
        c.due(x, "spread(-1)", x.spread(-1), -1, 5);
        x.cut(0, 1);
        c.due(x, "it can't be", x.plan(), -1, 9);
        x.pass(3);
        c.due(x, "for those alive", x.plan(), 2, 0);
        c.due(x, "those alive alone", x.spread(11), 2, 0);
        x.dig(-1);
        c.due(x, "dry", x.plan(), -1, 9);
        c.due(x, "dry", x.spread(11), 0, 0);
        WellHeirs y = c.with("water 10 bottom 10;person a;rope r of a yards 9 age 1 holy;rope s of a yards 5 age 1;rope t of a yards 5 age 1;");
        c.due(y, "a holy one is not knotted, and 9 do not do", y.plan(), -1, 9);
        WellHeirs z = c.with("water 9 bottom 10;person a;person b;rope r of a yards 9 age 1 holy;rope s of a yards 5 age 1;rope t of a yards 5 age 1;");
        c.due(z, "a holy one alone", z.plan(), 1, 0);
        z.lend(1, 1);
        c.due(z, "whosesoever, lent or not", z.plan(), 1, 0);
        WellHeirs v = c.with("person a;person b;person c dies 1;rope r of a yards 1 age 1;rope s of a yards 1 age 1;");
        c.due(v, "at depth 0 each needs a rope", v.plan(), -1, 9);
        c.due(v, "spread(0)", v.spread(0), 2, 0);
        v.pass(1);
        c.due(v, "no knots more", v.plan(), 0, 0);
        WellHeirs u = c.with("person a dies 1;rope r of a yards 1 age 1;");
        u.pass(1);
        c.due(u, "nobody is alive", u.plan(), -1, 8);
        c.due(u, "nobody is alive", u.spread(0), 0, 0);
        // Nine ropes of 7 yards and one of 10 knotted together reach 10 + 9 * 6.
        WellHeirs w = c.with("water 64 bottom 99;person a;rope r of a yards 80 age 1;rope s of a yards 1 age 1 yards 1 age 1;");
        for (int i = 0; i < 10; i++) w.cut(0, 7);
        c.due(w, "ropes", w.many(1), 12, 0);
        c.due(w, "9 knots, more than 8 pieces", w.plan(), 9, 0);
    }

    private static void holdsAndBest() {
        c.at("42");
        WellHeirs x = c.with("water 5 bottom 9;person a;person b;rope r of a yards 5 age 1 yards 5 age 1 yards 5 age 1 slips 4;"
            + "rope s of a yards 5 age 1 yards 5 age 1 slips 8;rope t of a yards 4 age 1;rope u of b yards 7 age 1 yards 1 age 1 slips 15;rope v of b yards 9 age 1 slips 15;");
        c.fraction(x, "holds(0)", x.holds(0), 9, 16);
        c.fraction(x, "holds(1)", x.holds(1), 1, 2);
        c.fraction(x, "without a knot", x.holds(2), 1, 1);
        c.fraction(x, "holds(3)", x.holds(3), 1, 16);
        c.fraction(x, "holds(4)", x.holds(4), 1, 1);
        c.due(x, "holds(5)", x.holds(5), false, 2);
        String four = " yards 1 age 1 yards 1 age 1 yards 1 age 1 yards 1 age 1 slips 15;";
        WellHeirs y = c.with("person a;rope r of a" + four + "rope s of a" + four);
        y.knot(0, 1);
        c.fraction(y, "seven knots", y.holds(0), 1, 268435456);

        c.at("43");
        c.due(x, "best(0): 9 by 16, the third does not reach", x.best(0), 0, 0);
        c.due(x, "best(1)", x.best(1), 4, 0);
        x.sell(4, 9, 0);
        c.due(x, "best(0)", x.best(0), 4, 0);
        x.lend(4, 1);
        c.due(x, "what is lent is not held", x.best(0), 0, 0);
        c.due(x, "what is borrowed is", x.best(1), 4, 0);
        c.due(x, "best(2)", x.best(2), -1, 2);
        x.dig(-9);
        c.due(x, "does not drink", x.best(0), -1, 8);
        WellHeirs z = c.with("water 5 bottom 9;person a;rope r of a yards 3 age 1 yards 4 age 1 slips 12;rope s of a yards 9 age 1 yards 9 age 1 yards 9 age 1 slips 8;");
        c.due(z, "a fourth by either: the first", z.best(0), 0, 0);
    }

    private static void queues() {
        c.at("44");
        WellHeirs x = c.with("water 5 bottom 9;person a;person b;person c;person d;rope r of a yards 5 age 1 yards 5 age 1 yards 5 age 1;"
            + "rope s of a yards 5 age 1 yards 5 age 1;rope t of a yards 4 age 1;rope u of b yards 7 age 1;rope v of c yards 3 age 1 yards 2 age 1 yards 5 age 1;");
        c.due(x, "drawing(0): by the fewest knots", x.drawing(0), 14, 0);
        c.due(x, "drawing(1)", x.drawing(1), 11, 0);
        c.due(x, "drawing(2)", x.drawing(2), 17, 0);
        c.due(x, "does not drink", x.drawing(3), -1, 8);
        c.due(x, "drawing(4)", x.drawing(4), -1, 2);

        c.at("45, 46");
        c.due(x, "no tray", x.waiting(4, 1), -1, 1);
        c.due(x, "missing", x.waiting(0, 99), -1, 3);
        x.tray(0, 3, 60);
        x.write(0, 0, 2);
        x.write(0, 1, 0);
        x.write(0, 2, 1);
        x.write(0, 3, 3);
        c.due(x, "waiting(0,1)", x.waiting(0, 1), 0, 0);
        c.due(x, "waiting(0,2)", x.waiting(0, 2), 17, 0);
        c.due(x, "waiting(0,3)", x.waiting(0, 3), 17 + 31, 0);
        c.due(x, "least(0,3)", x.leastWaiting(0, 3), 11 + 25, 0);
        c.due(x, "waiting is as before", x.waiting(0, 3), 48, 0);
        c.due(x, "one does not drink", x.waiting(0, 4), -1, 9);
        c.due(x, "one does not drink", x.leastWaiting(0, 4), -1, 9);
        c.due(x, "twice, ahead of 9", x.waiting(0, 5), -1, 5);
        c.due(x, "waiting(0,0)", x.waiting(0, 0), -1, 5);
        c.due(x, "waiting(0,-1)", x.waiting(0, -1), -1, 5);
        c.due(x, "waiting(0,9)", x.waiting(0, 9), -1, 5);
        c.due(x, "waiting(0,61)", x.waiting(0, 61), -1, 4);
        c.due(x, "least(0,61)", x.leastWaiting(0, 61), -1, 4);
        c.due(x, "least(-1,1)", x.leastWaiting(-1, 1), -1, 1);
        c.due(x, "least(1,1)", x.leastWaiting(1, 1), -1, 3);
        x.write(0, 1, 4);
        c.due(x, "no person", x.waiting(0, 2), -1, 5);
        x.write(0, 1, -1);
        c.due(x, "no person", x.leastWaiting(0, 2), -1, 5);
        x.write(0, 1, 1L << 32);
        c.due(x, "no person", x.waiting(0, 2), -1, 5);
        x.tray(0, 0, 3);
        c.due(x, "too few, ahead of 5", x.waiting(0, 9), -1, 4);
        c.due(x, "as many as it has: thrice 0", x.waiting(0, 3), -1, 5);
        StringBuilder eight = new StringBuilder("water 5 bottom 9;");
        for (int i = 0; i < 8; i++) eight.append("person p").append((char) ('a' + i)).append(";");
        for (int i = 0; i < 6; i++) {
            eight.append("rope r").append((char) ('a' + i)).append(" of p").append((char) ('a' + i));
            for (int k = 0; k <= i % 3; k++) eight.append(" yards 40 age 1");
            eight.append(";");
        }
        x = c.with(eight.toString());
        x.sell(0, 9, 6);
        x.sell(0, 9, 7);
        x.tray(0, 0, 8);
        for (int i = 0; i < 8; i++) x.write(0, i, 7 - i);
        // In this order: 11, 11, 17, 14, 11, 17, 14, 11.
        c.due(x, "eight", x.waiting(0, 8), 11 * 7 + 11 * 6 + 17 * 5 + 14 * 4 + 11 * 3 + 17 * 2 + 14, 0);
        c.due(x, "eight, at best", x.leastWaiting(0, 8), 11 * (7 + 6 + 5 + 4) + 14 * (3 + 2) + 17, 0);
    }

    private static void marks() {
        c.at("47, 48");
        WellHeirs x = c.with(FAMILY, "if holy give each;");
        x.seed(5);
        c.due(x, "mark", x.mark(), 1, 0);
        x.pass(12);
        x.lend(2, 1);
        x.dig(7);
        x.seed(6);
        c.due(x, "mark", x.mark(), 2, 0);
        Check.well(x, "person z;rope y of z yards 3 age 3;");
        c.due(x, "a new well leaves the marks", x.mark(), 3, 0);
        c.due(x, "a fourth", x.mark(), -1, 7);
        x.sell(0, 3, 0);
        x.tray(1, 1, 1);
        c.due(x, "back", x.back(), 2, 0);
        c.due(x, "the third", x.many(0), 1, 0);
        c.due(x, "trays are not taken back", x.read(1, 0), 0, 0);
        c.due(x, "back", x.back(), 1, 0);
        int[] second = {4, 3, 1, 12, 32, 67, 6};
        for (int i = 0; i < second.length; i++) c.due(x, "the second: many(" + i + ")", x.many(i), second[i], 0);
        c.due(x, "lent", x.rope(2, 1), 1, 0);
        c.due(x, "inherited", x.rope(0, 0), 1, 0);
        x.cut(0, 4);
        Check.law(x, "");
        c.due(x, "back", x.back(), 0, 0);
        int[] first = {4, 3, 1, 0, 20, 60, 5};
        for (int i = 0; i < first.length; i++) c.due(x, "the first: many(" + i + ")", x.many(i), first[i], 0);
        c.due(x, "ann's", x.rope(0, 0), 0, 0);
        c.due(x, "whole", x.rope(0, 3), 25, 0);
        c.due(x, "not lent", x.rope(2, 1), -1, 8);
        c.due(x, "back", x.back(), -1, 8);
        c.due(x, "mark", x.mark(), 1, 0);
        Check.put(x, "person z;");
        x.back();
        c.due(x, "the tape is not taken back", x.well(9), 1, 0);
    }

    private static void laws() {
        c.at("deaths by numbers");
        // b borrowed e's rope and dies with a: when a's is given, e (a's child) does not hold it yet.
        WellHeirs x = c.with("person a dies 2;person b dies 2;person d of a;person e of a;rope r of a yards 3 age 1;rope s of e yards 9 age 1;rope t of d yards 1 age 1;",
            "if year = 2 give poorest;");
        x.lend(1, 1);
        x.pass(2);
        c.due(x, "e's, who holds nothing then", x.rope(0, 0), 3, 0);
        x = c.with("person b dies 2;person a dies 2;person d of a;person e of a;rope r of a yards 3 age 1;rope s of e yards 9 age 1;rope t of d yards 1 age 1;",
            "if year = 2 give poorest;");
        x.lend(1, 0);
        x.pass(2);
        c.due(x, "b is buried first: d's", x.rope(0, 0), 2, 0);
    }

    public static void main(String[] args) {
        newObject();
        status();
        fractions();
        tray();
        writeAndRead();
        pour();
        feed();
        well();
        wellAnew();
        wellFaults();
        law();
        lawFaults();
        fault();
        many();
        person();
        heirs();
        rope();
        piece();
        seed();
        pass();
        inherit();
        inheritEach();
        lawWords();
        laws();
        drinks();
        ahead();
        thirstAndLast();
        odds();
        knot();
        undo();
        cut();
        sell();
        lendAndTakeBack();
        dig();
        led();
        shareHeirloomYards();
        needed();
        planAndSpread();
        holdsAndBest();
        queues();
        marks();
        c.end("PromisesTest");
    }
}
