import java.lang.reflect.Method;
import java.util.ArrayList;
import java.util.HashMap;
import java.util.List;
import java.util.Map;
import java.util.Random;
import java.util.TreeMap;

/** Drawn runs of calls: the class and the model answer alike, with the same status, fraction and fault. */
public final class AgainstModelTest {
    private static final String[] ASKED = {"many", "person", "heirs", "rope", "piece", "drinks", "who", "depth", "whoThen", "owner",
        "thirst", "last", "odds", "led", "share", "heirloom", "yardsOf", "needed", "plan", "spread", "holds", "best", "drawing",
        "waiting", "leastWaiting", "read"};
    private static final String[] DONE = {"knot", "undo", "cut", "sell", "lend", "takeBack", "dig", "pass", "seed", "mark", "back",
        "knot", "knot", "knot", "undo", "cut", "cut", "cut", "sell", "lend", "pass", "tray", "write", "pour", "queue"};

    private final Random draw;
    private final Map<String, Method> inClass = new HashMap<>();
    private final Map<String, Method> inModel = new HashMap<>();
    private final List<String> told = new ArrayList<>();
    private WellHeirs object = new WellHeirs();
    private Model model = new Model();
    private int calls = 0;
    /** How often each call ended with each status: shown if it is asked for, to see what the draws leave out. */
    private static final Map<String, Integer> tally = new TreeMap<>();

    private AgainstModelTest(long seed) {
        draw = new Random(seed);
        for (Method m : WellHeirs.class.getDeclaredMethods()) inClass.put(m.getName(), m);
        for (Method m : Model.class.getDeclaredMethods()) if (inClass.containsKey(m.getName())) keepModels(m);
    }

    /** The model has a helper of the name odds: the face's is the one with four arguments. */
    private void keepModels(Method m) {
        if (m.getParameterCount() == inClass.get(m.getName()).getParameterCount()) inModel.put(m.getName(), m);
    }

    private int below(int n) {
        return draw.nextInt(n);
    }

    private int from(int a, int b) {
        return a + below(b - a + 1);
    }

    private String oneOf(String... words) {
        return words[below(words.length)];
    }

    // ---- drawn texts

    private String well() {
        StringBuilder t = new StringBuilder();
        int people = below(10) == 0 ? from(0, 9) : from(1, 8);
        int ropes = below(10) == 0 ? from(0, 7) : from(1, 6);
        boolean deep = below(4) == 0;
        if (below(12) != 0) {
            t.append("water ").append(deep ? from(0, 300) : from(0, 40)).append(" bottom ").append(from(20, 400));
            if (below(3) != 0) t.append(" sinks ").append(below(3) == 0 ? from(0, 99) : from(0, 3));
            if (below(2) == 0) t.append(" rain ").append(from(0, 16)).append(" by ").append(from(0, 12));
            t.append(";");
        }
        for (int p = 0; p < people; p++) {
            t.append("person p").append((char) ('a' + p));
            if (p > 0 && below(5) != 0) t.append(" of p").append((char) ('a' + below(Math.min(p, 3))));
            if (below(2) == 0) t.append(" dies ").append(from(1, below(3) == 0 ? 200 : 20));
            t.append(below(9) == 0 ? " ;\n" : ";");
        }
        for (int r = 0; r < ropes; r++) {
            t.append("rope r").append((char) ('a' + r)).append(" of p").append((char) ('a' + below(Math.max(1, Math.min(people, 4)))));
            int pieces = below(40) == 0 ? 5 : from(1, 4);
            for (int k = 0; k < pieces; k++) t.append(" yards ").append(from(1, deep ? 200 : 25)).append(" age ").append(from(0, 300));
            if (below(5) == 0) t.append(" holy");
            if (below(2) == 0) t.append(" slips ").append(from(0, 15));
            t.append(";");
        }
        int floods = below(3) == 0 ? from(0, 5) : 0;
        for (int f = 0; f < floods; f++) {
            int a = from(0, 30);
            t.append("flood ").append(a).append(" to ").append(a + from(below(9) == 0 ? -2 : 0, 9)).append(" by ").append(from(1, 15)).append(";");
        }
        return t.toString();
    }

    private String law() {
        StringBuilder t = new StringBuilder();
        int rules = below(12) == 0 ? from(10, 14) : from(0, 4);
        boolean brief = rules > 5;
        for (int r = 0; r < rules; r++) {
            t.append(brief ? "if holy" : "if ").append(brief ? "" : either(0));
            t.append(" give ").append(brief ? "each" : oneOf("eldest", "youngest", "poorest", "each", "each", "well")).append(";");
        }
        return t.toString();
    }

    private String either(int level) {
        StringBuilder t = new StringBuilder(one(level));
        for (int more = below(3); more > 0; more--) t.append(oneOf(" or ", " and ")).append(one(level));
        return t.toString();
    }

    private String one(int level) {
        int kind = level > 6 ? 9 : below(6);
        if (kind == 0) return "not " + one(level + 1);
        if (kind == 1) return "(" + either(level + 1) + ")";
        if (kind == 2) return oneOf("holy", "reaches");
        return oneOf("yards", "reach", "knots", "age", "heirs", "year") + oneOf("<", ">", "=", " > ")
            + (below(20) == 0 ? from(990, 1010) : below(2) == 0 ? from(0, 4) : from(0, 300));
    }

    /** A few letters of a text are lost, doubled, or become others. */
    private String spoilt(String text) {
        StringBuilder t = new StringBuilder(text);
        for (int times = from(1, 3); times > 0 && t.length() > 0; times--) {
            int at = below(t.length());
            switch (below(5)) {
                case 0: t.deleteCharAt(at); break;
                case 1: t.insert(at, t.charAt(at)); break;
                case 2: t.setCharAt(at, (char) below(256)); break;
                case 3: t.insert(at, oneOf(";", " ", "(", ")", "<", "99999", "not ", " of ", "water ", "yards ", "abcdefghi", "7", "if ")); break;
                default: t.setLength(at); break;
            }
        }
        return t.toString();
    }

    private void text(String name, String text) throws Exception {
        String t = text.length() > 900 ? text.substring(0, 900) : text;
        for (int at = 0; at < t.length(); at += 20) {
            long[] five = new long[5];
            for (int i = 0; i < 20; i++) {
                int c = at + i < t.length() ? t.charAt(at + i) : ' ';
                five[i / 4] = (int) (five[i / 4] << 8 | c);
            }
            call("feed", five);
        }
        told.add("  the text: " + t.replace("\n", "\\n"));
        if (below(30) == 0) call(name, t.length() + 20L);
        call(name, (long) t.length());
    }

    // ---- drawn calls

    private long argument(String name, int i) {
        if (below(25) == 0) return new long[] {-1, Integer.MAX_VALUE, Integer.MIN_VALUE, 0, 12, 8, 200, 9999, -99, 1000}[below(10)];
        switch (name) {
            case "many": return from(0, 7);
            case "person": return i == 0 ? aPerson() : from(0, 5);
            case "rope": return i == 0 ? aRope() : from(0, 8);
            case "piece": return i == 0 ? aRope() : i == 1 ? from(0, 4) : from(0, 2);
            case "depth": case "whoThen": return below(3) == 0 ? from(0, 101) : from(0, 20);
            case "owner": return i == 0 ? aRope() : from(0, 60);
            case "last": return from(0, 2);
            case "odds": return i == 0 ? aPerson() : i == 1 ? from(0, 30) : i == 2 ? from(0, 9999) : from(1, 21);
            case "led": return i == 0 ? aRope() : from(0, 60);
            case "yardsOf": return i == 0 ? from(0, 200) : from(100, 400);
            case "spread": return from(0, 12);
            case "holds": case "takeBack": return aRope();
            case "waiting": case "leastWaiting": return i == 0 ? from(0, 3) : from(0, 6);
            case "read": return i == 0 ? from(0, 3) : from(0, 9);
            case "knot": return aRope();
            case "undo": return i == 0 ? aRope() : from(0, 4);
            case "cut": return i == 0 ? aRope() : from(1, 30);
            case "sell": return i == 0 ? aRope() : i == 1 ? from(1, 30) : aPerson();
            case "lend": return i == 0 ? aRope() : aPerson();
            case "dig": return from(-40, 60);
            case "pass": return below(6) == 0 ? from(0, 51) : from(1, 6);
            case "seed": return from(0, 10001);
            case "tray": return i == 2 ? from(0, 12) : from(0, 3);
            case "write": return i == 0 ? from(0, 3) : i == 1 ? from(0, 9) : below(3) == 0 ? draw.nextLong() : from(-1, 8);
            case "pour": return i == 0 || i == 2 ? from(0, 3) : from(0, 5);
            default: return aPerson();
        }
    }

    private int aPerson() {
        int people = model.people();
        return people == 0 || below(12) == 0 ? from(0, 8) : below(people);
    }

    private int aRope() {
        List<Integer> ropes = model.ropeNumbers();
        return ropes.isEmpty() || below(12) == 0 ? from(0, 12) : ropes.get(below(ropes.size()));
    }

    private void drawnCall(String name) throws Exception {
        if (name.equals("queue")) {
            queue();
            return;
        }
        long[] arguments = new long[inClass.get(name).getParameterCount()];
        for (int i = 0; i < arguments.length; i++) {
            arguments[i] = argument(name, i);
            if (inClass.get(name).getParameterTypes()[i] == int.class) arguments[i] = (int) arguments[i];
        }
        call(name, arguments);
    }

    /** A row of those who drink, so that queues are not only refused. */
    private void queue() throws Exception {
        int set = object.who();
        call("who");
        int many = Integer.bitCount(set);
        int tray = below(4);
        call("tray", tray, below(4), many + below(3));
        List<Integer> row = new ArrayList<>();
        for (int p = 0; p < 8; p++) if ((set >> p & 1) == 1) row.add(below(row.size() + 1), p);
        for (int i = 0; i < row.size(); i++) call("write", tray, i, row.get(i));
        call("waiting", tray, many);
        call("leastWaiting", tray, many);
    }

    private void call(String name, long... arguments) throws Exception {
        calls++;
        Class<?>[] types = inClass.get(name).getParameterTypes();
        Object[] given = new Object[arguments.length];
        StringBuilder line = new StringBuilder(name).append("(");
        for (int i = 0; i < arguments.length; i++) {
            if (types[i] == long.class) given[i] = arguments[i]; else given[i] = (int) arguments[i];
            line.append(i == 0 ? "" : ", ").append(arguments[i]);
        }
        Object got = inClass.get(name).invoke(object, given);
        Object want = inModel.get(name).invoke(model, given);
        told.add(line + ") answered " + got + ", status " + object.status());
        boolean same = got.equals(want) && object.status() == model.status && object.top() == model.top && object.bottom() == model.bottom
            && object.fault(0) == model.fault(0) && object.fault(1) == model.fault(1);
        if (!same) {
            told.forEach(System.out::println);
            System.out.println("due is " + want + ", status " + model.status + ", " + model.top + " by " + model.bottom + ", fault "
                + model.fault(0) + " at " + model.fault(1) + "; answered with " + object.top() + " by " + object.bottom() + ", fault "
                + object.fault(0) + " at " + object.fault(1));
            System.exit(1);
        }
        tally.merge(name + " " + object.status(), 1, Integer::sum);
        if (object.status() == 10 && !name.equals("feed")) tally.merge(name + " fault " + object.fault(0), 1, Integer::sum);
    }

    private void run() throws Exception {
        text("well", well());
        for (int i = 0; i < 120; i++) {
            int kind = below(40);
            if (kind == 0) text("well", below(2) == 0 ? well() : spoilt(well()));
            else if (kind <= 2) text("law", below(2) == 0 ? law() : spoilt(law()));
            else if (kind < 22) drawnCall(DONE[below(DONE.length)]);
            else drawnCall(ASKED[below(ASKED.length)]);
        }
    }

    public static void main(String[] args) throws Exception {
        int runs = args.length > 0 ? Integer.parseInt(args[0]) : 2000;
        long first = args.length > 1 ? Long.parseLong(args[1]) : 0;
        long calls = 0;
        for (int i = 0; i < runs; i++) {
            AgainstModelTest test = new AgainstModelTest(first + i);
            test.run();
            calls += test.calls;
        }
        if (args.length > 2) System.out.println(tally);
        System.out.println("AgainstModelTest: " + runs + " runs, " + calls + " calls are as due");
    }
}
