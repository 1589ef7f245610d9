/** What the tests share: feeding a text, counting answers that are not the ones due. */
final class Check {
    private int wrong = 0;
    private int asked = 0;
    private String where = "";

    void at(String promise) {
        where = promise;
    }

    void due(String call, long got, long want) {
        asked++;
        if (got != want) {
            wrong++;
            System.out.println(where + ": " + call + " answered " + got + ", due is " + want);
        }
    }

    void due(String call, boolean got, boolean want) {
        due(call, got ? 1 : 0, want ? 1 : 0);
    }

    /** An answer and the status behind it. */
    void due(WellHeirs x, String call, long got, long want, int status) {
        due(call, got, want);
        due("status() behind " + call, x.status(), status);
    }

    void due(WellHeirs x, String call, boolean got, boolean want, int status) {
        due(x, call, got ? 1 : 0, want ? 1 : 0, status);
    }

    void fraction(WellHeirs x, String call, boolean got, long top, long bottom) {
        due(x, call, got, true, 0);
        due("top() behind " + call, x.top(), top);
        due("bottom() behind " + call, x.bottom(), bottom);
    }

    static void put(WellHeirs x, String text) {
        for (int at = 0; at < text.length(); at += 20) {
            int[] five = new int[5];
            for (int i = 0; i < 20; i++) {
                five[i / 4] = five[i / 4] << 8 | (at + i < text.length() ? text.charAt(at + i) : ' ');
            }
            x.feed(five[0], five[1], five[2], five[3], five[4]);
        }
    }

    static int well(WellHeirs x, String text) {
        put(x, text);
        return x.well(text.length());
    }

    static int law(WellHeirs x, String text) {
        put(x, text);
        return x.law(text.length());
    }

    /** A new object with a well. */
    WellHeirs with(String well) {
        WellHeirs x = new WellHeirs();
        well(x, well);
        due("status of the well " + well, x.status(), 0);
        return x;
    }

    WellHeirs with(String well, String law) {
        WellHeirs x = with(well);
        law(x, law);
        due("status of the law " + law, x.status(), 0);
        return x;
    }

    void badWell(String text, int fault, int place) {
        WellHeirs x = new WellHeirs();
        due(x, "well " + text, well(x, text), -1, 10);
        due("fault(0) of " + text, x.fault(0), fault);
        due("fault(1) of " + text, x.fault(1), place);
    }

    void badLaw(String text, int fault, int place) {
        WellHeirs x = new WellHeirs();
        due(x, "law " + text, law(x, text), -1, 10);
        due("fault(0) of " + text, x.fault(0), fault);
        due("fault(1) of " + text, x.fault(1), place);
    }

    void end(String name) {
        System.out.println(name + ": " + (asked - wrong) + " of " + asked + " answers are as due");
        if (wrong != 0) System.exit(1);
    }
}
