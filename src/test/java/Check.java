import java.util.List;

/** What the tests share: feeding a text, counting answers that are not the ones due. */
final class Check {
    private int wrong = 0;
    private int asked = 0;
    private String where = "";

    interface Tells {
        long of(WellHeirs x);
    }

    interface Does {
        boolean of(WellHeirs x);
    }

    interface Make {
        WellHeirs one();
    }

    void at(String promise) {
        where = promise;
    }

    /** The words of the document by which the next answers are due: they must stand there. */
    void says(String words) {
        where = words;
        asked++;
        if (!Document.text().contains(words)) {
            wrong++;
            System.out.println("The document does not say: " + words);
        }
    }

    void due(String call, long got, long want) {
        asked++;
        if (got != want) {
            wrong++;
            System.out.println(where + ": " + call + " answered " + got + ", due is " + want);
        }
    }

    void due(String call, boolean got, boolean want) {
        due(call, got ? 1 : 0, want ? 1 : 0);
    }

    /** An answer and the status behind it. */
    void due(WellHeirs x, String call, long got, long want, int status) {
        due(call, got, want);
        due("status() behind " + call, x.status(), status);
    }

    void due(WellHeirs x, String call, boolean got, boolean want, int status) {
        due(x, call, got ? 1 : 0, want ? 1 : 0, status);
    }

    void fraction(WellHeirs x, String call, boolean got, long top, long bottom) {
        due(x, call, got, true, 0);
        due("top() behind " + call, x.top(), top);
        due("bottom() behind " + call, x.bottom(), bottom);
    }

    static void put(WellHeirs x, String text) {
        for (int at = 0; at < text.length(); at += 20) {
            int[] five = new int[5];
            for (int i = 0; i < 20; i++) {
                five[i / 4] = five[i / 4] << 8 | (at + i < text.length() ? text.charAt(at + i) : ' ');
            }
            x.feed(five[0], five[1], five[2], five[3], five[4]);
        }
    }

    static int well(WellHeirs x, String text) {
        put(x, text);
        return x.well(text.length());
    }

    static int law(WellHeirs x, String text) {
        put(x, text);
        return x.law(text.length());
    }

    /** A new object with a well. */
    WellHeirs with(String well) {
        WellHeirs x = new WellHeirs();
        well(x, well);
        due("status of the well " + well, x.status(), 0);
        return x;
    }

    WellHeirs with(String well, String law) {
        WellHeirs x = with(well);
        law(x, law);
        due("status of the law " + law, x.status(), 0);
        return x;
    }

    void badWell(String text, int fault, int place) {
        WellHeirs x = new WellHeirs();
        due(x, "well " + text, well(x, text), -1, 10);
        due("fault(0) of " + text, x.fault(0), fault);
        due("fault(1) of " + text, x.fault(1), place);
    }

    void badLaw(String text, int fault, int place) {
        WellHeirs x = new WellHeirs();
        due(x, "law " + text, law(x, text), -1, 10);
        due("fault(0) of " + text, x.fault(0), fault);
        due("fault(1) of " + text, x.fault(1), place);
    }

    /** A call that is refused: NONE, its STATUS, and nothing else is another than without the call. */
    void refused(String call, Make make, Tells calls, int status) {
        WellHeirs x = make.one();
        due(x, call, calls.of(x), -1, status);
        alike("all else behind " + call, Readout.of(x), Readout.of(make.one()));
    }

    void denied(String call, Make make, Does does, int status) {
        WellHeirs x = make.one();
        due(x, call, does.of(x), false, status);
        alike("all else behind " + call, Readout.of(x), Readout.of(make.one()));
    }

    /** A text that is refused by a FAULT: only the tape and what fault() tells may be others. */
    void faulty(String name, Make make, Tells calls) {
        WellHeirs x = make.one();
        due(x, name, calls.of(x), -1, 10);
        alike("all else behind " + name, Readout.withoutTexts(x), Readout.withoutTexts(make.one()));
    }

    void alike(String what, List<String> got, List<String> want) {
        asked++;
        if (!got.equals(want)) {
            wrong++;
            System.out.println(where + ": " + what + ": " + firstUnlike(got, want));
        }
    }

    private static String firstUnlike(List<String> got, List<String> want) {
        for (int i = 0; i < Math.min(got.size(), want.size()); i++) {
            if (!got.get(i).equals(want.get(i))) return got.get(i) + ", due is " + want.get(i);
        }
        return got.size() + " answers, due are " + want.size();
    }

    void end(String name) {
        System.out.println(name + ": " + (asked - wrong) + " of " + asked + " answers are as due");
        if (wrong != 0) System.exit(1);
    }
}
