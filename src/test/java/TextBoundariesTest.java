import java.util.Arrays;
import java.util.List;

/** What the document says of TRAYS, the tape and the TEXTS of a WELL and of a LAW: each boundary by itself. */
public final class TextBoundariesTest {
    private static final Check c = new Check();
    private static final int MAX = Integer.MAX_VALUE;
    private static final int MIN = Integer.MIN_VALUE;
    private static final List<String> RESERVED = Arrays.asList(("water bottom sinks rain by person of dies rope yards age holy slips flood to "
        + "if give or and not heirs reaches reach knots year eldest youngest poorest each well").split(" "));

    // ---- TRAYS

    private static void trayNumbers() {
        c.says("TRAYS, 0 to 3, are MISSING at first");
        WellHeirs x = new WellHeirs();
        for (int t = 0; t <= 3; t++) {
            c.due(x, "read " + t, x.read(t, 0), -1, 3);
            c.due(x, "write " + t, x.write(t, 0, 1), false, 3);
            c.due(x, "pour from " + t, x.pour(t, 0, t, 0, 0), false, 3);
            c.due(x, "waiting " + t, x.waiting(t, 1), -1, 3);
            c.due(x, "leastWaiting " + t, x.leastWaiting(t, 1), -1, 3);
        }
        for (int t : new int[] {-1, 4, MIN, MAX}) {
            c.due(x, "tray " + t, x.tray(t, 0, 1), false, 1);
            c.due(x, "read " + t, x.read(t, 0), -1, 1);
            c.due(x, "write " + t, x.write(t, 0, 1), false, 1);
            c.due(x, "pour from " + t, x.pour(t, 0, 0, 0, 0), false, 1);
            c.due(x, "pour to " + t, x.pour(0, 0, t, 0, 0), false, 1);
            c.due(x, "waiting " + t, x.waiting(t, 1), -1, 1);
            c.due(x, "leastWaiting " + t, x.leastWaiting(t, 1), -1, 1);
        }
        for (int t = 0; t <= 3; t++) {
            for (int other = t; other <= 3; other++) c.due(x, "still missing", x.read(other, 0), -1, 3);
            c.due(x, "tray " + t, x.tray(t, 0, 1), true, 0);
            c.due(x, "read " + t, x.read(t, 0), 0, 0);
        }
    }

    private static void traySorts() {
        c.says("rows of numbers of 8 bits (sort 0), 16 (1), 32 (2) or 64 (3), with sign; what is written is cut to these");
        WellHeirs x = new WellHeirs();
        for (int sort = 0; sort <= 3; sort++) {
            int bits = 8 << sort;
            long least = Long.MIN_VALUE >> 64 - bits;
            long most = Long.MAX_VALUE >> 64 - bits;
            c.due(x, "sort " + sort, x.tray(0, sort, 1), true, 0);
            keeps(x, least, least);
            keeps(x, most, most);
            keeps(x, least + 1, least + 1);
            keeps(x, most + 1, least);
            keeps(x, least - 1, most);
            keeps(x, -1, -1);
            keeps(x, 0x123456789abcdefL, sort == 0 ? -17 : sort == 1 ? -12817 : sort == 2 ? 0x89abcdef : 0x123456789abcdefL);
            keeps(x, Long.MAX_VALUE, sort == 3 ? Long.MAX_VALUE : -1);
            keeps(x, Long.MIN_VALUE, sort == 3 ? Long.MIN_VALUE : 0);
        }
        for (int sort : new int[] {-1, 4, MIN, MAX}) c.due(x, "sort " + sort, x.tray(0, sort, 1), false, 1);
    }

    private static void keeps(WellHeirs x, long written, long read) {
        c.due(x, "write " + written, x.write(0, 0, written), true, 0);
        c.due(x, "read behind a write of " + written, x.read(0, 0), read, 0);
    }

    private static void trayLengths() {
        c.says("A TRAY is a row of so many numbers (at most 60; 5), all 0 (1; 5; 6).");
        for (int many : new int[] {0, 1, 59, 60}) {
            WellHeirs x = new WellHeirs();
            c.due(x, "tray of " + many, x.tray(2, 2, many), true, 0);
            for (int i = 0; i < many; i++) c.due(x, "place " + i, x.read(2, i), 0, 0);
            c.due(x, "one behind the last of " + many, x.read(2, many), -1, 4);
            c.due(x, "one behind the last of " + many, x.write(2, many, 1), false, 4);
            c.due(x, "one ahead of the first", x.read(2, -1), -1, 4);
            c.due(x, "one ahead of the first", x.write(2, -1, 1), false, 4);
            for (int i = 0; i < many; i++) x.write(2, i, 7);
            c.due(x, "anew", x.tray(2, 3, many), true, 0);
            for (int i = 0; i < many; i++) c.due(x, "all 0 anew " + i, x.read(2, i), 0, 0);
        }
        WellHeirs x = new WellHeirs();
        for (int many : new int[] {61, 62, MAX}) c.due(x, "tray of " + many, x.tray(0, 0, many), false, 5);
        for (int many : new int[] {-1, -2, MIN}) c.due(x, "tray of " + many, x.tray(0, 0, many), false, 6);
        c.due(x, "still missing", x.read(0, 0), -1, 3);
        x.tray(1, 1, 3);
        for (int i = 0; i < 3; i++) x.write(1, i, 5);
        x.tray(1, 1, 2);
        x.tray(1, 1, 3);
        c.due(x, "shorter and longer again: all 0", x.read(1, 2), 0, 0);
    }

    private static void places() {
        c.says("A number comes to a place of a TRAY (1; 3; 4).");
        WellHeirs x = new WellHeirs();
        x.tray(1, 2, 60);
        c.due(x, "the first place", x.write(1, 0, 11), true, 0);
        c.due(x, "the last place", x.write(1, 59, 12), true, 0);
        c.due(x, "the first", x.read(1, 0), 11, 0);
        c.due(x, "the second", x.read(1, 1), 0, 0);
        c.due(x, "the last but one", x.read(1, 58), 0, 0);
        c.due(x, "the last", x.read(1, 59), 12, 0);
        c.says("The number in a place of a TRAY; STATUS tells NONE from -1 (1; 3; 4).");
        x.write(1, 3, -1);
        c.due(x, "a -1", x.read(1, 3), -1, 0);
        for (int place : new int[] {-1, 60, MIN, MAX}) {
            c.due(x, "place " + place, x.read(1, place), -1, 4);
            c.due(x, "place " + place, x.write(1, place, 1), false, 4);
        }
    }

    private static WellHeirs poured() {
        WellHeirs x = new WellHeirs();
        x.tray(0, 2, 5);
        x.tray(1, 2, 3);
        x.tray(2, 1, 3);
        for (int i = 0; i < 5; i++) x.write(0, i, 10 + i);
        for (int i = 0; i < 3; i++) x.write(1, i, 20 + i);
        return x;
    }

    private static void row(WellHeirs x, int tray, int... due) {
        for (int i = 0; i < due.length; i++) c.due(x, "place " + i + " of tray " + tray, x.read(tray, i), due[i], 0);
    }

    private static void pour() {
        c.says("So many numbers from place i on of a TRAY come to place j on of another one, or the same, as they were");
        WellHeirs x = poured();
        c.due(x, "one number", x.pour(0, 4, 1, 2, 1), true, 0);
        row(x, 1, 20, 21, 14);
        c.due(x, "all of the shorter one", x.pour(1, 0, 0, 2, 3), true, 0);
        row(x, 0, 10, 11, 20, 21, 14);
        c.due(x, "one up within the same", x.pour(0, 0, 0, 1, 4), true, 0);
        row(x, 0, 10, 10, 11, 20, 21);
        c.due(x, "one down within the same", x.pour(0, 1, 0, 0, 4), true, 0);
        row(x, 0, 10, 11, 20, 21, 21);
        c.due(x, "to where it is", x.pour(0, 0, 0, 0, 5), true, 0);
        row(x, 0, 10, 11, 20, 21, 21);
        row(x, 1, 20, 21, 14);
        c.due(x, "none", x.pour(0, 0, 1, 0, 0), true, 0);
        c.due(x, "none, at the end of both", x.pour(0, 5, 1, 3, 0), true, 0);
        row(x, 1, 20, 21, 14);
        x.tray(3, 2, 0);
        c.due(x, "none, of an empty one", x.pour(3, 0, 3, 0, 0), true, 0);
        c.due(x, "one of an empty one", x.pour(3, 0, 0, 0, 1), false, 4);
        c.due(x, "one to an empty one", x.pour(0, 0, 3, 0, 1), false, 4);
    }

    private static void pourRefused() {
        c.says("1, 3 (either), 11, 6, 4, asked in this order.");
        Check.Make make = TextBoundariesTest::poured;
        c.denied("1 ahead of 3", make, x -> x.pour(4, 0, 3, 0, 1), 1);
        c.denied("1 ahead of 3", make, x -> x.pour(3, 0, -1, 0, 1), 1);
        c.denied("1 ahead of 6 and 4", make, x -> x.pour(0, 9, 4, 9, -1), 1);
        c.denied("3 of the first, ahead of 6", make, x -> x.pour(3, 0, 0, 0, -1), 3);
        c.denied("3 of the second, ahead of 6", make, x -> x.pour(0, 0, 3, 0, -1), 3);
        c.denied("3 ahead of 4", make, x -> x.pour(3, -1, 0, 0, 1), 3);
        c.denied("11 ahead of 6", make, x -> x.pour(0, 0, 2, 0, -1), 11);
        c.denied("11 ahead of 4", make, x -> x.pour(2, -1, 0, 0, 1), 11);
        c.denied("6 ahead of 4", make, x -> x.pour(0, -1, 1, 9, -1), 6);
        c.denied("6 of the least", make, x -> x.pour(0, 0, 1, 0, MIN), 6);
        c.denied("i below 0", make, x -> x.pour(0, -1, 1, 0, 1), 4);
        c.denied("j below 0", make, x -> x.pour(0, 0, 1, -1, 1), 4);
        c.denied("none from below 0", make, x -> x.pour(0, -1, 1, 0, 0), 4);
        c.denied("none from beyond the end", make, x -> x.pour(0, 6, 1, 0, 0), 4);
        c.denied("none to beyond the end", make, x -> x.pour(0, 0, 1, 4, 0), 4);
        c.denied("one too many there", make, x -> x.pour(0, 0, 1, 0, 4), 4);
        c.denied("one too many here", make, x -> x.pour(1, 0, 0, 0, 4), 4);
        c.denied("one too far here", make, x -> x.pour(0, 3, 1, 0, 3), 4);
        c.denied("one too far there", make, x -> x.pour(0, 0, 1, 1, 3), 4);
        c.denied("from the last place on beyond", make, x -> x.pour(0, 5, 1, 0, 1), 4);
        c.denied("so many that the sum wraps around", make, x -> x.pour(0, 1, 1, 1, MAX), 4);
        c.denied("so far that the sum wraps around", make, x -> x.pour(0, MAX, 1, 0, 1), 4);
        c.denied("so far there that the sum wraps around", make, x -> x.pour(0, 0, 1, MAX, 1), 4);
        c.denied("the least place", make, x -> x.pour(0, MIN, 1, MIN, 1), 4);
    }

    // ---- the tape

    private static void feed() {
        c.says("Twenty bytes come behind those on the tape, the highest of each int first: how many it has; NONE if there would be more than 900.");
        WellHeirs x = new WellHeirs();
        c.due("the first twenty", x.feed(0x70657273, 0x6f6e2061, 0x3b706572, 0x736f6e20, 0x6263643b), 20);
        c.due(x, "in their order", x.well(20), 2, 0);
        for (int i = 1; i <= 44; i++) c.due("feed", x.feed(0x20202020, 0x20202020, 0x20202020, 0x20202020, 0x20202020), 20 * i);
        c.due("up to 900", x.feed(0x20202020, 0x20202020, 0x20202020, 0x20202020, 0x2020203b), 900);
        x.many(9);
        c.due("beyond 900", x.feed(1, 2, 3, 4, 5), -1);
        c.due("it has no status", x.status(), 5);
        c.due("once more", x.feed(1, 2, 3, 4, 5), -1);
        c.due(x, "what was refused is not there", x.well(900), -1, 10);
        c.due("the last byte is the 900th", x.fault(1), 899);
        c.due("empty again", x.feed(-1, 0, 0, 0, 0), 20);
        c.due(x, "a byte of 255", x.well(1), -1, 10);
        c.due("fault", x.fault(0), 1);
    }

    private static void wellOfTheTape() {
        c.says("A WELL is a TEXT of at most 900 bytes.");
        WellHeirs x = new WellHeirs();
        Check.put(x, "person a;" + " ".repeat(882) + "person b;");
        c.due(x, "well(901)", x.well(901), -1, 5);
        c.due(x, "well(900)", x.well(900), 2, 0);
        c.says("The first n bytes of the tape (which is empty then, but for 5) are the WELL: how many PEOPLE (5; 10: the old one stays).");
        Check.put(x, "person abc;person d;");
        for (int n : new int[] {-1, 21, 900, MIN, MAX}) c.due(x, "well(" + n + ")", x.well(n), -1, 5);
        c.due("5 leaves the tape", x.feed(0x20202020, 0x20202020, 0x20202020, 0x20202020, 0x20202020), 40);
        c.due(x, "and what is on it", x.well(20), 2, 0);
        c.due(x, "nothing is left", x.well(1), -1, 5);
        c.due(x, "nothing is left", x.law(1), -1, 5);
        c.due(x, "none of it is a WELL, too", x.well(0), 0, 0);
        Check.put(x, "person abc;person d;");
        c.due(x, "the first 0 of 20", x.well(0), 0, 0);
        c.due(x, "the tape is empty then", x.well(1), -1, 5);
        Check.put(x, "person abc;person d;");
        c.due(x, "the first 11", x.well(11), 1, 0);
        Check.put(x, "person abc;person d;");
        c.due(x, "the first 10: no ; any more", x.well(10), -1, 10);
        c.due("at the text's length", x.fault(1), 10);
        c.due("with 10, too, the tape is empty then", x.feed(0, 0, 0, 0, 0), 20);
        c.due(x, "the old one stays", x.many(0), 1, 0);
        x = new WellHeirs();
        Check.put(x, "water 1234 bottom 99;");
        c.due(x, "a NUMBER ends where the text does", x.well(8), -1, 10);
        c.due("the end", x.fault(1), 8);
        c.due("can't stand there", x.fault(0), 2);
        Check.put(x, "person abcdefghi;");
        c.due(x, "a WORD ends where the text does", x.well(15), -1, 10);
        c.due("the end", x.fault(1), 15);
    }

    private static void lawOfTheTape() {
        c.says("The LAW is a TEXT of at most 300 bytes, of such TOKENS (none at first).");
        c.says("Likewise the LAW: how many RULES (5: above 300, too; 10).");
        WellHeirs x = new WellHeirs();
        String text = "if holy give each;" + " ".repeat(261) + "if reaches give well;";
        c.due("a text of 300", text.length(), 300);
        Check.put(x, text + "!");
        for (int n : new int[] {-1, 301, 320, 321, MIN, MAX}) c.due(x, "law(" + n + ")", x.law(n), -1, 5);
        c.due(x, "law(300)", x.law(300), 2, 0);
        c.due(x, "RULES", x.many(2), 2, 0);
        c.due(x, "the tape is empty then", x.law(1), -1, 5);
        c.due("5 leaves what fault tells", x.fault(0), 0);
        Check.put(x, "if holy give each;if!");
        c.due(x, "the first 18", x.law(18), 1, 0);
        Check.put(x, "if holy give each;if!");
        c.due(x, "the first 17", x.law(17), -1, 10);
        c.due("at the text's length", x.fault(1), 17);
        c.due("with 10, too, the tape is empty then", x.feed(0, 0, 0, 0, 0), 20);
        c.due(x, "the old one stays", x.many(2), 1, 0);
        c.due(x, "no RULE is a LAW, too", x.law(0), 0, 0);
        c.due(x, "RULES", x.many(2), 0, 0);
    }

    // ---- TOKENS

    private static void bytes() {
        c.says("TOKENS, as long as they go, between them blanks (10, 32): WORDS (small letters), NUMBERS (1 to 4 digits), SIGNS ; < > = ( )");
        for (int b = 0; b < 256; b++) {
            boolean blank = b == 10 || b == 32;
            boolean token = b >= 'a' && b <= 'z' || b >= '0' && b <= '9' || b < 128 && ";<>=()".indexOf(b) >= 0;
            String text = String.valueOf((char) b);
            if (blank) {
                c.due("a blank " + b, Check.well(new WellHeirs(), text), 0);
                c.due("a blank " + b, Check.law(new WellHeirs(), text), 0);
                c.due("a blank within " + b, Check.well(new WellHeirs(), text + "person" + text + text + "a" + text + ";" + text), 1);
            } else {
                c.badWell(text, token ? 2 : 1, 0);
                c.badLaw(text, token ? 2 : 1, 0);
                if (!token) c.badWell("person a" + text + ";", 1, 8);
                if (!token) c.badWell("water 5" + text + "bottom 5;", 1, 7);
            }
        }
        c.due("no blanks where TOKENS end by themselves", Check.well(new WellHeirs(), "water5bottom 5sinks 5rain 5by 5;person a;person b of a dies 5;"), 2);
        c.due("as long as they go", Check.law(new WellHeirs(), "if(yards<5)and not(reach>5or knots=0005)give each;if holy give well;"), 2);
        c.badWell("persona;", 2, 0);
        c.badWell("person a ;rope r ofa yards 1 age 1;", 2, 17);
        c.badWell("water 1 2 bottom 3;", 2, 8);
        c.badLaw("if yards<1 2 give each;", 2, 11);
    }

    private static void numbersOfFiveDigits() {
        c.says("1 no TOKEN begins so (a NUMBER of 5 digits and more: at its first)");
        c.due("one digit", Check.well(new WellHeirs(), "water 5 bottom 0;"), 0);
        c.due("four digits", Check.well(new WellHeirs(), "water 0005 bottom 0000;"), 0);
        c.badWell("water 00005 bottom 0;", 1, 6);
        c.badWell("water 12345 bottom 0;", 1, 6);
        c.badWell("water 5 bottom " + "9".repeat(20) + ";", 1, 15);
        c.badWell("water 9999 bottom 0;", 4, 6);
        c.badWell("9999", 2, 0);
        c.badWell("99999", 1, 0);
        c.badWell("person 00000", 1, 7);
        c.badLaw("if 00000", 1, 3);
        c.badLaw("if yards<00000", 1, 9);
        c.badLaw("if holy give 12345", 1, 13);
        c.badLaw("if yards<9999", 4, 9);
        WellHeirs x = new WellHeirs();
        Check.put(x, "water 12345 bottom 5;");
        c.due(x, "four of five digits: the text ends there", x.well(10), -1, 10);
        c.due("1,234 can't be", x.fault(0), 4);
        c.due("at its first", x.fault(1), 6);
    }

    // ---- the text of a WELL

    private static final String PLACE = "#";

    /** A NUMBER from one to another one: these stand, the next ones below and above are FAULT 4 at the NUMBER. */
    private static void number(String text, int least, int most) {
        boolean law = text.startsWith("if");
        for (int v : new int[] {least, least + (most > least ? 1 : 0), most}) {
            WellHeirs x = new WellHeirs();
            String t = text.replace(PLACE, String.valueOf(v));
            c.due(t, law ? Check.law(x, t) >= 0 : Check.well(x, t) >= 0, true);
            c.due("status of " + t, x.status(), 0);
            String padded = text.replace(PLACE, String.format("%04d", v));
            c.due(padded, law ? Check.law(x, padded) >= 0 : Check.well(x, padded) >= 0, true);
        }
        for (int v : new int[] {least - 1, most + 1, 9999}) {
            if (v >= 0) bad(text, String.valueOf(v), 4);
        }
        bad(text, "00000", 1);
        bad(text, "", 2);
        bad(text, "five", 2);
        bad(text, "<", 2);
        bad(text, "-5", 1);
    }

    private static void bad(String text, String token, int fault) {
        int place = text.indexOf(PLACE);
        String t = text.replace(PLACE, token);
        if (token.isEmpty()) {
            while (place < t.length() && t.charAt(place) == ' ') place++;
        }
        if (text.startsWith("if")) c.badLaw(t, fault, place); else c.badWell(t, fault, place);
    }

    private static void numbersOfAWell() {
        c.says("WATER is so many yards down at first (0 to 999), the BOTTOM so many (0 to 999)");
        number("water # bottom 5;", 0, 999);
        number("water 5 bottom #;", 0, 999);
        c.says("by how many yards it SINKS each year (0 to 99; 0 without)");
        number("water 5 bottom 5 sinks #;", 0, 99);
        number("water 5 bottom 5 sinks # rain 5 by 5;", 0, 99);
        c.says("with how many sixteenths a year has RAIN (0 to 16; 0 without), by how many yards it brings the WATER up (0 to 99)");
        number("water 5 bottom 5 rain # by 5;", 0, 16);
        number("water 5 bottom 5 sinks 5 rain # by 5;", 0, 16);
        number("water 5 bottom 5 rain 5 by #;", 0, 99);
        c.says("in which YEAR it DIES (1 to 200; without: not; alive is one while the YEAR is below that)");
        number("person a dies #;", 1, 200);
        number("person a;person b of a dies #;", 1, 200);
        c.says("YARDS (1 to 200), AGE in years (0 to 300); HOLY or not; with how many sixteenths each of its KNOTS SLIPS (0 to 15; 0 without)");
        number("person a;rope r of a yards # age 5;", 1, 200);
        number("person a;rope r of a yards 5 age #;", 0, 300);
        String three = "person a;rope r of a yards 5 age 5 yards 5 age 5 yards 5 age 5 ";
        number(three + "yards # age 5;", 1, 200);
        number(three + "yards 5 age #;", 0, 300);
        number("person a;rope r of a yards 5 age 5 slips #;", 0, 15);
        number("person a;rope r of a yards 5 age 5 holy slips #;", 0, 15);
        c.says("from one YEAR to another one (0 to 200) the WATER stands so many yards higher (1 to 999) than it would");
        number("flood # to 200 by 5;", 0, 200);
        number("flood 0 to # by 5;", 0, 200);
        number("flood 0 to 5 by #;", 1, 999);
        c.says("4 a NUMBER that can't be (the second YEAR of a flood below the first, too)");
        number("flood 7 to # by 5;", 7, 200);
        number("flood 200 to # by 5;", 200, 200);
        c.badWell("flood 200 to 199 by 5;", 4, 13);
        c.badWell("flood 1 to 0 by 5;", 4, 11);
        c.badWell("flood 201 to 0 by 5;", 4, 6);
    }

    /** What may stand behind the beginning of a text; each other TOKEN is FAULT 2 there. */
    private static void next(boolean law, String beginning, String allowed) {
        List<String> may = Arrays.asList(allowed.split(" "));
        String[] tokens = ("5 ; < > = ( ) zz a r abcdefghi END " + String.join(" ", RESERVED)).split(" ");
        for (String token : tokens) {
            boolean number = token.equals("5");
            boolean name = token.equals("zz") || token.equals("a") || token.equals("r");
            String text = beginning + (token.equals("END") ? "  " : " " + token);
            int place = token.equals("END") ? text.length() : beginning.length() + 1;
            if (may.contains(number ? "NUMBER" : token)) {
                goesOn(law, text, place);
            } else if (name && may.contains("NEW")) {
                if (token.equals("zz")) goesOn(law, text, place); else fault(law, text, 3, place);
            } else if (name && may.contains("KNOWN")) {
                if (token.equals("a")) goesOn(law, text, place); else fault(law, text, 3, place);
            } else {
                fault(law, text, may.contains("AGAIN") && token.equals("water") ? 5 : 2, place);
            }
        }
    }

    private static void fault(boolean law, String text, int fault, int place) {
        if (law) c.badLaw(text, fault, place); else c.badWell(text, fault, place);
    }

    /** No FAULT stands at that place: the text is one, or its end is what is missing. */
    private static void goesOn(boolean law, String text, int place) {
        WellHeirs x = new WellHeirs();
        int got = law ? Check.law(x, text) : Check.well(x, text);
        if (place == text.length()) {
            c.due(x, text + " ends there", got >= 0, true, 0);
        } else if (got < 0) {
            c.due("fault of " + text, x.fault(0), 2);
            c.due("its place in " + text, x.fault(1), text.length());
        }
    }

    private static void whereTokensStandInAWell() {
        c.says("WELL: {PART}. PART: water NUMBER bottom NUMBER [sinks NUMBER] [rain NUMBER by NUMBER] ; or person NAME [of NAME] [dies NUMBER] ; "
            + "or rope NAME of NAME PIECE {PIECE} [holy] [slips NUMBER] ; or flood NUMBER to NUMBER by NUMBER ; PIECE: yards NUMBER age NUMBER.");
        c.says("2 it can't stand there (the end: the text's length; a WORD of 9 letters and more where a NAME must stand)");
        String p = "person a;rope r of a yards 1 age 1;";
        next(false, "", "water person rope flood END");
        next(false, p, "water person rope flood END");
        String[][] water = {{"water", "NUMBER"}, {" 5", "bottom"}, {" bottom", "NUMBER"}, {" 5", "sinks rain ;"}, {" sinks", "NUMBER"}, {" 5", "rain ;"},
            {" rain", "NUMBER"}, {" 5", "by"}, {" by", "NUMBER"}, {" 5", ";"}, {";", "AGAIN person rope flood END"}};
        String[][] dry = {{"water 5 bottom 5 rain", "NUMBER"}, {" 5", "by"}, {" by", "NUMBER"}, {" 5", ";"}};
        String[][] person = {{"person", "NEW"}, {" b", "of dies ;"}, {" of", "KNOWN"}, {" a", "dies ;"}, {" dies", "NUMBER"}, {" 5", ";"},
            {";", "water person rope flood END"}};
        String[][] orphan = {{"person b dies", "NUMBER"}, {" 5", ";"}};
        String[][] rope = {{"rope", "NEW"}, {" s", "of"}, {" of", "KNOWN"}, {" a", "yards"}, {" yards", "NUMBER"}, {" 5", "age"}, {" age", "NUMBER"},
            {" 5", "yards holy slips ;"}, {" yards", "NUMBER"}, {" 5", "age"}, {" age", "NUMBER"}, {" 5", "yards holy slips ;"}, {" holy", "slips ;"},
            {" slips", "NUMBER"}, {" 5", ";"}, {";", "water person rope flood END"}};
        String[][] plain = {{"rope s of a yards 5 age 5 slips", "NUMBER"}, {" 5", ";"}};
        String[][] flood = {{"flood", "NUMBER"}, {" 5", "to"}, {" to", "NUMBER"}, {" 5", "by"}, {" by", "NUMBER"}, {" 5", ";"},
            {";", "water person rope flood END"}};
        for (String[][] part : new String[][][] {water, dry, person, orphan, rope, plain, flood}) {
            StringBuilder t = new StringBuilder(p);
            for (String[] step : part) {
                t.append(step[0]);
                next(false, t.toString(), step[1]);
            }
        }
    }

    private static void anyNumberOfTimes() {
        c.says("({ } any number of times, [ ] perhaps.)");
        WellHeirs x = new WellHeirs();
        c.due(x, "no PART", Check.well(x, ""), 0, 0);
        c.due(x, "no PART, blanks", Check.well(x, " \n "), 0, 0);
        c.due(x, "no RULE", Check.law(x, ""), 0, 0);
        c.due(x, "no RULE, blanks", Check.law(x, "\n \n"), 0, 0);
        for (String sinks : new String[] {"", " sinks 1"}) {
            for (String rain : new String[] {"", " rain 16 by 3"}) {
                c.due(x, "water" + sinks + rain, Check.well(x, "water 9 bottom 9" + sinks + rain + ";"), 0, 0);
                c.due(x, "DEPTH", x.depth(1), 9 + (sinks.isEmpty() ? 0 : 1) - (rain.isEmpty() ? 0 : 3), 0);
            }
        }
        for (String of : new String[] {"", " of a"}) {
            for (String dies : new String[] {"", " dies 5"}) {
                c.due(x, "person b" + of + dies, Check.well(x, "person a;person b" + of + dies + ";"), 2, 0);
                c.due(x, "whose", x.person(1, 0), of.isEmpty() ? -1 : 0, of.isEmpty() ? 8 : 0);
                c.due(x, "dies", x.person(1, 1), dies.isEmpty() ? -1 : 5, dies.isEmpty() ? 8 : 0);
            }
        }
        for (String holy : new String[] {"", " holy"}) {
            for (String slips : new String[] {"", " slips 5"}) {
                c.due(x, "rope" + holy + slips, Check.well(x, "person a;rope r of a yards 1 age 1" + holy + slips + ";"), 1, 0);
                c.due(x, "HOLY", x.rope(0, 6), holy.isEmpty() ? 0 : 1, 0);
                c.due(x, "SLIPS", x.rope(0, 7), slips.isEmpty() ? 0 : 5, 0);
            }
        }
        c.due(x, "PARTS in any order", Check.well(x, "flood 0 to 0 by 1;person a;rope r of a yards 1 age 1;person b of a;water 5 bottom 5;rope s of b yards 1 age 1;flood 0 to 0 by 1;"), 2, 0);
        c.due(x, "DEPTH", x.many(4), 3, 0);
        c.due(x, "many BOTHs and ONEs", Check.law(x, "if holy" + " or holy and holy".repeat(11) + " give each;"), 1, 0);
    }

    private static void ends() {
        c.says("2 it can't stand there (the end: the text's length; a WORD of 9 letters and more where a NAME must stand)");
        c.badWell("water", 2, 5);
        c.badWell("water 5 bottom 5", 2, 16);
        c.badWell("water 5 bottom 5 \n ", 2, 19);
        c.badWell("   person   ", 2, 12);
        c.badLaw("if", 2, 2);
        c.badLaw("if holy give each \n", 2, 19);
        c.badWell("person a" + " ".repeat(892), 2, 900);
        c.badLaw("if holy" + " ".repeat(293), 2, 300);
    }

    private static void names() {
        c.says("NAME: a WORD of 1 to 8 letters that is none of water, bottom, sinks, rain, by, person, of, dies, rope, yards, age, holy, slips, flood, to, if, "
            + "give, or, and, not, heirs, reaches, reach, knots, year, eldest, youngest, poorest, each, well.");
        String rest = " yards 1 age 1;";
        for (String name : new String[] {"a", "z", "ab", "abcdefg", "abcdefgh", "zzzzzzzz"}) {
            WellHeirs x = new WellHeirs();
            c.due(x, name, Check.well(x, "person " + name + ";person q of " + name + ";rope s of " + name + rest), 2, 0);
            c.due(x, name, Check.well(x, "person q;rope " + name + " of q" + rest), 1, 0);
        }
        for (String name : new String[] {"abcdefghi", "waterwater", "abcdefghijklmnopqrstuvwxyz"}) {
            c.badWell("person " + name + ";", 2, 7);
            c.badWell("person q of " + name + ";", 2, 12);
            c.badWell("person q;rope " + name + " of q" + rest, 2, 14);
            c.badWell("person q;rope r of " + name + rest, 2, 19);
        }
        for (String word : RESERVED) {
            c.badWell("person " + word + ";", 2, 7);
            c.badWell("person q of " + word + ";", 2, 12);
            c.badWell("person q;rope " + word + " of q" + rest, 2, 14);
            c.badWell("person q;rope r of " + word + rest, 2, 19);
            free(word + "x");
            free("x" + word);
            free(word.substring(0, word.length() - 1));
            free(word.substring(1));
        }
    }

    /** A WORD that is nearly one of those that are no NAMES. */
    private static void free(String name) {
        boolean is = !name.isEmpty() && name.length() <= 8 && !RESERVED.contains(name);
        WellHeirs x = new WellHeirs();
        c.due("person " + name, Check.well(x, "person " + name + ";"), is ? 1 : -1);
    }

    private static void namesTaken() {
        c.says("One NAME is of one thing alone.");
        c.says("3 a new NAME that is taken; a NAME that is no PERSON told ahead");
        String rest = " yards 1 age 1;";
        c.badWell("person a;person a;", 3, 16);
        c.badWell("person abcdefgh;person b;person abcdefgh;", 3, 32);
        c.badWell("person a;rope a of a" + rest, 3, 14);
        c.badWell("person a;rope r of a" + rest + "person r;", 3, 42);
        c.badWell("person a;rope r of a" + rest + "rope r of a" + rest, 3, 40);
        c.badWell("person a of a;", 3, 12);
        c.badWell("person a of b;person b;", 3, 12);
        c.badWell("rope r of a" + rest + "person a;", 3, 10);
        c.badWell("person a;rope r of r" + rest, 3, 19);
        c.badWell("person a;rope r of a" + rest + "person b of r;", 3, 47);
        c.badWell("person a;rope r of a" + rest + "rope s of r" + rest, 3, 45);
        WellHeirs x = new WellHeirs();
        c.due(x, "unlike in the last letter, longer, shorter", Check.well(x, "person abcdefgh;person abcdefgi;person abcdefg;person a;rope ab of a" + rest), 4, 0);
        StringBuilder all = new StringBuilder();
        for (int i = 0; i < 8; i++) all.append("person p").append((char) ('a' + i)).append(";");
        for (int i = 0; i < 5; i++) all.append("rope r").append((char) ('a' + i)).append(" of ph").append(rest);
        for (int i = 0; i < 8; i++) {
            c.badWell(all + "rope p" + (char) ('a' + i) + " of pa" + rest, 3, all.length() + 5);
            if (i < 5) c.badWell(all + "rope r" + (char) ('a' + i) + " of pa" + rest, 3, all.length() + 5);
        }
        all.append("rope rf of ph").append(rest);
        c.due(x, "all of 8 and 6", Check.well(x, all.toString()), 8, 0);
        c.due(x, "whose", x.rope(5, 0), 7, 0);
        c.due(x, "names are forgotten with their text", Check.well(x, "person pa;"), 1, 0);
    }

    private static void tooMany() {
        c.says("PEOPLE, at most 8: whose child one is (told ahead; without: nobody's)");
        c.says("ROPES, at most 6 in a TEXT: whose, of 1 to 4 PIECES, one knotted to the next");
        c.says("FLOODS, at most 4");
        c.says("6 a ninth person, seventh rope, fifth flood (at that WORD); a fifth PIECE (at its yards)");
        StringBuilder people = new StringBuilder();
        for (int i = 0; i < 8; i++) {
            people.append("person p").append((char) ('a' + i)).append(";");
            WellHeirs x = new WellHeirs();
            c.due(x, "people", Check.well(x, people.toString()), i + 1, 0);
            c.due(x, "many(0)", x.many(0), i + 1, 0);
        }
        c.badWell(people + "person pi;", 6, people.length());
        c.badWell(people + "\n person", 6, people.length() + 2);
        c.badWell(people + "person pa;", 6, people.length());
        StringBuilder ropes = new StringBuilder("person a;");
        for (int i = 0; i < 6; i++) {
            ropes.append("rope r").append((char) ('a' + i)).append(" of a yards 1 age 1;");
            WellHeirs x = new WellHeirs();
            c.due(x, "ropes", Check.well(x, ropes.toString()), 1, 0);
            c.due(x, "many(1)", x.many(1), i + 1, 0);
        }
        c.badWell(ropes + "rope rg of a yards 1 age 1;", 6, ropes.length());
        c.badWell(ropes + "rope ra of a yards 1 age 1;", 6, ropes.length());
        c.badWell(ropes + "rope", 6, ropes.length());
        StringBuilder floods = new StringBuilder("water 99 bottom 99;");
        for (int i = 0; i < 4; i++) {
            floods.append("flood 0 to 0 by 1;");
            WellHeirs x = new WellHeirs();
            c.due(x, "floods", Check.well(x, floods.toString()), 0, 0);
            c.due(x, "DEPTH", x.many(4), 98 - i, 0);
        }
        c.badWell(floods + "flood 0 to 0 by 1;", 6, floods.length());
        c.badWell(floods + "flood", 6, floods.length());
        StringBuilder pieces = new StringBuilder("person a;rope r of a");
        for (int i = 1; i <= 4; i++) {
            pieces.append(" yards ").append(i).append(" age 1");
            WellHeirs x = new WellHeirs();
            c.due(x, "pieces", Check.well(x, pieces + ";"), 1, 0);
            c.due(x, "rope(0,2)", x.rope(0, 2), i, 0);
        }
        c.badWell(pieces + " yards 5 age 1;", 6, pieces.length() + 1);
        c.badWell(pieces + " yards", 6, pieces.length() + 1);
        c.badWell(pieces + " holy yards", 2, pieces.length() + 6);
        c.badWell("person a;rope r of a;", 2, 20);
    }

    private static void firstFault() {
        c.says("FAULTS, the first along the text (of one TOKEN the least kind)");
        c.badWell("person a dies 0;person a;!", 4, 14);
        c.badWell("person a;person a;!", 3, 16);
        c.badWell("person a;;person b dies 0;", 2, 9);
        c.badWell("person !;;", 1, 7);
        c.badWell("water 1 bottom 1;water 1000", 5, 17);
        c.badWell("water 1 bottom 1000;water", 4, 15);
        c.badWell("water 1 bottom 1;person a;water 1 bottom 1;", 5, 26);
        c.badWell("person a;rope r of a yards 201 age 301;", 4, 27);
        c.badWell("person water;", 2, 7);
        c.badWell("person a;person 00000;", 1, 16);
        c.badWell("person a;rope abcdefghi of a yards 1 age 1;", 2, 14);
        c.badWell("person a of abcdefghi;", 2, 12);
        c.badLaw("if yards < 1000 give !", 4, 11);
        c.badLaw("if give !", 2, 3);
        c.says("5 water told already (at that WORD)");
        c.badWell("water 0 bottom 0;water 0 bottom 0;", 5, 17);
        c.badWell("water 0 bottom 0; \n water", 5, 20);
        c.badWell("water 0 bottom 0 water", 2, 17);
        WellHeirs x = new WellHeirs();
        Check.well(x, "water 1 bottom 1;");
        c.due(x, "in another text it is not told yet", Check.well(x, "water 2 bottom 3;"), 0, 0);
        c.due(x, "DEPTH", x.many(4), 2, 0);
        Check.well(x, "water 1 bottom 1;!");
        c.due(x, "nor behind a text with a FAULT", Check.well(x, "water 4 bottom 5;"), 0, 0);
    }

    // ---- the text of a LAW

    private static void whereTokensStandInALaw() {
        c.says("LAW: {RULE}. RULE: if EITHER give WHOM ; EITHER: BOTH {or BOTH}. BOTH: ONE {and ONE}. ONE: not ONE, or ( EITHER ), or holy, or reaches, or "
            + "CASE COMPARES NUMBER. CASE: yards, or reach, or knots, or age, or heirs, or year. COMPARES: < or > or = "
            + "WHOM: eldest, or youngest, or poorest, or each, or well.");
        c.says("FAULTS of it: 1, 2 as above.");
        String one = "not ( holy reaches yards reach knots age heirs year";
        next(true, "", "if END");
        next(true, "if", one);
        next(true, "if not", one);
        next(true, "if (", one);
        next(true, "if not (not", one);
        next(true, "if holy", "and or give");
        next(true, "if reaches", "and or give");
        next(true, "if (holy", "and or )");
        next(true, "if (holy and not reaches", "and or )");
        next(true, "if holy and", one);
        next(true, "if holy or", one);
        next(true, "if (holy) and", one);
        for (String fact : new String[] {"yards", "reach", "knots", "age", "heirs", "year"}) {
            next(true, "if " + fact, "< > =");
            for (String sign : new String[] {"<", ">", "="}) {
                next(true, "if " + fact + sign, "NUMBER");
                next(true, "if " + fact + sign + "5", "and or give");
                next(true, "if (" + fact + sign + "5", "and or )");
            }
        }
        next(true, "if (holy)", "and or give");
        next(true, "if ((holy)", "and or )");
        next(true, "if ((holy))", "and or give");
        next(true, "if holy give", "eldest youngest poorest each well");
        for (String whom : new String[] {"eldest", "youngest", "poorest", "each", "well"}) next(true, "if holy give " + whom, ";");
        next(true, "if holy give each;", "if END");
    }

    private static void numbersOfALaw() {
        c.says("(A CASE's NUMBER 0 to 999.)");
        c.says("4 a NUMBER that can't be. 6 a 13th RULE (at its if); a 25th of holy, reaches, CASE in all (at its WORD)");
        for (String fact : new String[] {"yards", "reach", "knots", "age", "heirs", "year"}) {
            for (String sign : new String[] {"<", ">", "="}) number("if " + fact + sign + "# give each;", 0, 999);
        }
    }

    private static void rules() {
        c.says("6 a 13th RULE (at its if); a 25th of holy, reaches, CASE in all (at its WORD)");
        StringBuilder rules = new StringBuilder();
        for (int i = 1; i <= 12; i++) {
            rules.append("if holy give each;");
            WellHeirs x = new WellHeirs();
            c.due(x, "rules", Check.law(x, rules.toString()), i, 0);
            c.due(x, "many(2)", x.many(2), i, 0);
        }
        c.badLaw(rules + "if", 6, rules.length());
        c.badLaw(rules + " \nif holy give each;", 6, rules.length() + 2);
        c.badLaw(rules + "give", 2, rules.length());
        c.badLaw(rules + "!", 1, rules.length());
        String[] cases = {"holy", "reaches", "yards<1", "reach<1", "knots<1", "age<1", "heirs<1", "year<1"};
        StringBuilder text = new StringBuilder("if ");
        for (int i = 0; i < 24; i++) text.append(i == 0 ? "" : " or ").append(cases[i % 8]);
        c.due("24 in one RULE", Check.law(new WellHeirs(), text + " give each;"), 1);
        for (String one : cases) c.badLaw(text + " or " + one + " give each;", 6, text.length() + 4);
        c.badLaw(text + " or give", 2, text.length() + 4);
        c.badLaw(text + " or (not holy)", 6, text.length() + 9);
        String ten = "if holy or reaches give each;".repeat(10);
        c.due("20 in ten RULES", Check.law(new WellHeirs(), ten), 10);
        String two = "if holy or holy or holy or holy or holy or holy or holy or holy or holy or holy or holy or holy give well;".repeat(2);
        c.due("24 in two RULES", Check.law(new WellHeirs(), two), 2);
        c.badLaw(two + "if holy give well;", 6, two.length() + 3);
        c.badLaw(two + "if give", 2, two.length() + 3);
        WellHeirs x = new WellHeirs();
        Check.law(x, two);
        c.due(x, "counted anew in each LAW", Check.law(x, two), 2, 0);
        Check.law(x, two + "if holy");
        c.due(x, "and behind a FAULT", Check.law(x, rules.toString()), 12, 0);
    }

    private static void within() {
        c.says("7 a ONE within six of not and brackets (at its first TOKEN)");
        for (int nots = 0; nots <= 6; nots++) {
            String open = "not ".repeat(nots) + "(".repeat(6 - nots);
            String close = ")".repeat(6 - nots);
            int place = 3 + open.length();
            for (String one : new String[] {"holy", "reaches", "yards<1", "not holy", "(holy)"}) {
                c.badLaw("if " + open + one + close + " give each;", 7, place);
            }
            c.badLaw("if " + open + "give", 2, place);
            c.badLaw("if " + open, 2, place);
            c.badLaw("if " + open + "!", 1, place);
            c.badLaw("if " + open + "12345", 1, place);
        }
        for (int nots = 0; nots <= 5; nots++) {
            String open = "not ".repeat(nots) + "(".repeat(5 - nots);
            c.due("five: " + open, Check.law(new WellHeirs(), "if " + open + "year<1" + ")".repeat(5 - nots) + " give each;"), 1);
        }
        c.badLaw("if (not (not (not holy or", 7, 18);
        c.due("each ONE by itself", Check.law(new WellHeirs(), "if not not not not not holy and not not not not not holy or (((((holy))))) give each;"), 1);
        c.badLaw("if ((((((holy", 7, 9);
        c.due("one bracket less, one more", Check.law(new WellHeirs(), "if (((((holy) and (holy))))) give each;"), 1);
        c.badLaw("if (((((holy) and ((holy", 7, 20);
        c.due("out of a bracket it is less deep", Check.law(new WellHeirs(), "if (((((holy) and holy))) and (not holy)) give each;"), 1);
        c.badLaw("if (((((holy and not holy", 7, 21);
        c.badLaw("if " + "holy or ".repeat(24) + "((((((holy", 6, 201);
        c.badLaw("if " + "holy or ".repeat(24) + "((((((not", 7, 201);
    }

    private static void taken() {
        c.says("A WELL that is taken is there in place of that ahead; it is YEAR 0, the seed is 0, nothing is lent, there is no LAW.");
        WellHeirs x = c.with("water 50 bottom 99 sinks 2 rain 16 by 1;person a dies 9;person b;rope r of a yards 5 age 4 holy slips 3;rope s of b yards 9 age 1;"
            + "flood 0 to 200 by 3;", "if year<200 give well;");
        x.lend(0, 1);
        x.lend(1, 0);
        x.seed(77);
        x.pass(3);
        x.dig(5);
        x.whoThen(5);
        c.due(x, "well", Check.well(x, "person c dies 3;person d of c;rope t of c yards 2 age 1 yards 3 age 9;rope u of d yards 1 age 0;"), 2, 0);
        int[] many = {2, 2, 0, 0, 0, 0, 0};
        for (int i = 0; i < many.length; i++) c.due(x, "many(" + i + ")", x.many(i), many[i], 0);
        int[] rope = {0, -1, 2, 5, 4, 9, 0, 0};
        for (int i = 0; i < rope.length; i++) c.due(x, "rope(0," + i + ")", x.rope(0, i), rope[i], i == 1 ? 8 : 0);
        c.due(x, "nothing is lent", x.rope(1, 1), -1, 8);
        c.due(x, "nobody's child", x.person(0, 0), -1, 8);
        c.due(x, "dies", x.person(0, 1), 3, 0);
        c.due(x, "does not die", x.person(1, 1), -1, 8);
        c.due(x, "the next ROPE", x.cut(0, 1), 2, 0);
        c.due(x, "years", x.pass(3), 3, 0);
        c.due(x, "WATER does not sink without that PART", x.many(4), 0, 0);
        c.due(x, "no RAIN, no draw", x.many(6), 0, 0);
        c.due(x, "no LAW: the eldest", x.rope(0, 0), 1, 0);
        c.says("Without that PART: 0, BOTTOM 0.");
        c.due(x, "no PART at all", x.well(0), 0, 0);
        for (int i = 0; i < 7; i++) c.due(x, "many(" + i + ")", x.many(i), 0, 0);
    }

    /** What was looked at AHEAD, or read up to a FAULT, leaves nothing in a WELL that is read behind it. */
    private static void takenBehindOthers() {
        c.says("A WELL that is taken is there in place of that ahead; it is YEAR 0, the seed is 0, nothing is lent, there is no LAW.");
        String others = "water 50 bottom 99 sinks 2 rain 16 by 1;person a dies 9;person b of a;person d of a;rope r of a yards 5 age 4 yards 6 age 1 yards 7 age 2 holy slips 3;"
            + "rope s of b yards 90 age 1;flood 0 to 200 by 3;flood 0 to 200 by 3;flood 0 to 200 by 3;flood 0 to 200 by 3;";
        String fresh = "water 9 bottom 12;flood 1 to 2 by 1;person c dies 3;person d of c;person e of c;rope t of c yards 2 age 1;rope u of d yards 9 age 0;";
        for (int way = 0; way < 3; way++) {
            WellHeirs x = c.with(others, "if year<200 give well;");
            x.lend(0, 2);
            x.lend(1, 0);
            x.seed(5);
            for (int i = 2; i < 12; i++) x.cut(1, 1);
            if (way == 0) x.whoThen(5);
            if (way == 1) Check.well(x, others + "!");
            if (way == 2) x.odds(0, 5, 0, 20);
            c.due(x, "well", Check.well(x, fresh), 3, 0);
            c.alike("all is as of a new object", Readout.withoutTexts(fractionOf(x)), Readout.withoutTexts(fractionOf(c.with(fresh))));
        }
    }

    private static WellHeirs fractionOf(WellHeirs x) {
        x.share(0);
        return x;
    }

    private static void lawInPlace() {
        c.says("Likewise the LAW: how many RULES (5: above 300, too; 10).");
        WellHeirs x = c.with("person a dies 1;person b of a;person d of a;rope r of a yards 1 age 1;", "if year=1 give well;if holy give well;");
        c.due(x, "the first LAW", x.owner(0, 1), -1, 0);
        Check.law(x, "if year=1 give youngest;");
        c.due(x, "the second in its place", x.owner(0, 1), 2, 0);
        c.due(x, "its RULES", x.many(2), 1, 0);
        Check.law(x, "if year=1 give eldest;if year=1 give well;!");
        c.due(x, "one with a FAULT is none", x.owner(0, 1), 2, 0);
        c.due(x, "its RULES", x.many(2), 1, 0);
        Check.law(x, "if holy give well;");
        c.due(x, "a third: no RULE holds", x.owner(0, 1), 1, 0);
        Check.law(x, "if year=1 give youngest;");
        x.law(0);
        c.due(x, "none: eldest", x.owner(0, 1), 1, 0);
    }

    private static void told() {
        c.says("Of the latest of these with STATUS 0 or 10, what 0: the FAULT (0 without one), 1: its place (NONE without). NONE for others, and ahead of any.");
        WellHeirs x = new WellHeirs();
        for (int what = -1; what <= 2; what++) c.due("ahead of any: fault(" + what + ")", x.fault(what), -1);
        x.well(1);
        x.law(301);
        c.due("5 is none of these", x.fault(0), -1);
        c.due("5 is none of these", x.fault(1), -1);
        x.law(0);
        c.due("without one", x.fault(0), 0);
        c.due("its place", x.fault(1), -1);
        Check.well(x, "!");
        c.due("FAULT", x.fault(0), 1);
        c.due("the first place", x.fault(1), 0);
        for (int what : new int[] {-1, 2, MIN, MAX}) c.due("fault(" + what + ")", x.fault(what), -1);
        x.well(1);
        x.law(-1);
        c.due("5 leaves it", x.fault(0), 1);
        c.due("5 leaves it", x.fault(1), 0);
        Check.law(x, "if holy give each;if ");
        c.due("the latest", x.fault(0), 2);
        c.due("its place", x.fault(1), 21);
        x.well(0);
        c.due("without one again", x.fault(0), 0);
        c.due("its place", x.fault(1), -1);
    }

    public static void main(String[] args) {
        trayNumbers();
        traySorts();
        trayLengths();
        places();
        pour();
        pourRefused();
        feed();
        wellOfTheTape();
        lawOfTheTape();
        bytes();
        numbersOfFiveDigits();
        numbersOfAWell();
        whereTokensStandInAWell();
        anyNumberOfTimes();
        ends();
        names();
        namesTaken();
        tooMany();
        firstFault();
        whereTokensStandInALaw();
        numbersOfALaw();
        rules();
        within();
        taken();
        takenBehindOthers();
        lawInPlace();
        told();
        c.end("TextBoundariesTest");
    }
}
