import java.util.ArrayList;
import java.util.Arrays;
import java.util.List;
import java.util.TreeMap;

/**
 * The document told a second time, with lists, strings and brute force in place of rows and tricks, so that
 * AgainstModelTest can hold the class against it. It shares no code with the class.
 */
final class Model {
    static final class Piece {
        int yards;
        int told;

        Piece(int yards, int told) {
            this.yards = yards;
            this.told = told;
        }
    }

    static final class Rope {
        Integer owner;
        Integer borrower;
        List<Piece> pieces = new ArrayList<>();
        boolean holy;
        int slips;

        Rope copy() {
            Rope r = new Rope();
            r.owner = owner;
            r.borrower = borrower;
            r.holy = holy;
            r.slips = slips;
            for (Piece p : pieces) r.pieces.add(new Piece(p.yards, p.told));
            return r;
        }

        int yards() {
            return pieces.stream().mapToInt(p -> p.yards).sum();
        }

        int reach() {
            return yards() - pieces.size() + 1;
        }

        int told() {
            return pieces.stream().mapToInt(p -> p.told).max().orElse(0);
        }

        /** The ages of all yards one by one. */
        List<Integer> yardByYard() {
            List<Integer> all = new ArrayList<>();
            for (Piece p : pieces) for (int i = 0; i < p.yards; i++) all.add(p.told);
            return all;
        }
    }

    interface Ask {
        boolean so(World w, Rope r, List<Integer> heirs);
    }

    static final class Rule {
        Ask ask;
        String whom;
    }

    static final class World {
        int year, water, bottom, sinks, rain, by, s;
        List<Integer> parents = new ArrayList<>();
        List<Integer> deaths = new ArrayList<>();
        List<int[]> floods = new ArrayList<>();
        TreeMap<Integer, Rope> ropes = new TreeMap<>();
        List<Rule> law = new ArrayList<>();

        World copy() {
            World w = new World();
            w.year = year;
            w.water = water;
            w.bottom = bottom;
            w.sinks = sinks;
            w.rain = rain;
            w.by = by;
            w.s = s;
            w.parents.addAll(parents);
            w.deaths.addAll(deaths);
            w.floods.addAll(floods);
            w.law.addAll(law);
            ropes.forEach((k, r) -> w.ropes.put(k, r.copy()));
            return w;
        }

        boolean alive(int p) {
            return deaths.get(p) == null || year < deaths.get(p);
        }

        int alive() {
            int n = 0;
            for (int p = 0; p < parents.size(); p++) if (alive(p)) n++;
            return n;
        }

        List<Integer> heirs(int p) {
            List<Integer> out = new ArrayList<>();
            for (int c = 0; c < parents.size(); c++) {
                if (parents.get(c) != null && parents.get(c) == p && alive(c)) out.add(c);
            }
            return out;
        }

        int depth() {
            int d = water;
            for (int[] f : floods) if (f[0] <= year && year <= f[1]) d -= f[2];
            return Math.max(d, 0);
        }

        boolean holds(int p, Rope r) {
            if (r.borrower != null) return r.borrower == p;
            return r.owner != null && r.owner == p;
        }

        boolean drinks(int p) {
            if (!alive(p) || depth() > bottom) return false;
            for (Rope r : ropes.values()) if (holds(p, r) && r.reach() >= depth()) return true;
            return false;
        }

        int drinkers() {
            int set = 0;
            for (int p = 0; p < parents.size(); p++) if (drinks(p)) set |= 1 << p;
            return set;
        }

        int held(int p) {
            int sum = 0;
            for (Rope r : ropes.values()) if (holds(p, r)) sum += r.yards();
            return sum;
        }

        int own(int p) {
            int sum = 0;
            for (Rope r : ropes.values()) if (r.owner != null && r.owner == p) sum += r.yards();
            return sum;
        }

        int newNumber() {
            int n = 0;
            while (ropes.containsKey(n)) n++;
            return n;
        }

        void passYear() {
            year++;
            water = Math.min(999, water + sinks);
            if (rain != 0) {
                s = (int) ((s * 2801L + 9011L) % 65536L);
                if ((s >> 3) % 16 < rain) water = Math.max(0, water - by);
            }
            for (int p = 0; p < parents.size(); p++) {
                if (deaths.get(p) != null && deaths.get(p) == year) die(p);
            }
        }

        void die(int p) {
            for (Rope r : ropes.values()) if (r.borrower != null && r.borrower == p) r.borrower = null;
            for (int number = 0; number < 12; number++) {
                Rope r = ropes.get(number);
                if (r == null || r.owner == null || r.owner != p) continue;
                r.borrower = null;
                List<Integer> heirs = heirs(p);
                String whom = "eldest";
                for (Rule rule : law) {
                    if (rule.ask.so(this, r, heirs)) {
                        whom = rule.whom;
                        break;
                    }
                }
                give(r, whom, heirs);
            }
        }

        void give(Rope r, String whom, List<Integer> heirs) {
            int n = heirs.size();
            if (n == 0 || whom.equals("well")) {
                r.owner = null;
                return;
            }
            if (whom.equals("each") && !r.holy && r.yards() >= n && ropes.size() + n - 1 <= 12) {
                List<Integer> yards = r.yardByYard();
                List<Piece> old = r.pieces;
                int at = 0;
                for (int i = 0; i < n; i++) {
                    int size = yards.size() / n + (i < yards.size() % n ? 1 : 0);
                    Rope part = i == 0 ? r : new Rope();
                    part.owner = heirs.get(i);
                    part.slips = r.slips;
                    part.pieces = between(old, at, at + size);
                    if (i > 0) ropes.put(newNumber(), part);
                    at += size;
                }
                return;
            }
            if (whom.equals("youngest")) {
                r.owner = heirs.get(n - 1);
            } else if (whom.equals("poorest")) {
                int best = heirs.get(0);
                for (int h : heirs) if (held(h) < held(best)) best = h;
                r.owner = best;
            } else {
                r.owner = heirs.get(0);
            }
        }
    }

    /** The pieces that lie from one yard (counted in) to another (not counted in). */
    static List<Piece> between(List<Piece> pieces, int from, int to) {
        List<Piece> out = new ArrayList<>();
        int at = 0;
        for (Piece p : pieces) {
            int a = Math.max(from, at);
            int b = Math.min(to, at + p.yards);
            if (b > a) out.add(new Piece(b - a, p.told));
            at += p.yards;
        }
        return out;
    }

    // ---- texts

    static final class Fault extends RuntimeException {
        private static final long serialVersionUID = 1L;
        final int kind;
        final int place;

        Fault(int kind, int place) {
            super(null, null, false, false);
            this.kind = kind;
            this.place = place;
        }
    }

    static final List<String> RESERVED = Arrays.asList(("water, bottom, sinks, rain, by, person, of, dies, rope, yards, age, holy, slips, "
        + "flood, to, if, give, or, and, not, heirs, reaches, reach, knots, year, eldest, youngest, poorest, each, well").split(", "));

    /** A text cut into tokens; one that can't be is told when it is looked at. */
    static final class Text {
        final List<String> tokens = new ArrayList<>();
        final List<Integer> places = new ArrayList<>();
        int i = 0;

        Text(String t) {
            int at = 0;
            while (at < t.length()) {
                char c = t.charAt(at);
                if (c == ' ' || c == '\n') {
                    at++;
                    continue;
                }
                int end = at + 1;
                String token = null;
                if (c >= 'a' && c <= 'z') {
                    while (end < t.length() && t.charAt(end) >= 'a' && t.charAt(end) <= 'z') end++;
                    token = t.substring(at, end);
                } else if (c >= '0' && c <= '9') {
                    while (end < t.length() && t.charAt(end) >= '0' && t.charAt(end) <= '9') end++;
                    token = end - at > 4 ? null : t.substring(at, end);
                } else if (";<>=()".indexOf(c) >= 0) {
                    token = t.substring(at, end);
                }
                tokens.add(token == null ? "?" : token);
                places.add(at);
                at = end;
            }
            tokens.add("");
            places.add(t.length());
        }

        /** The token that stands here, "" at the end. */
        String here() {
            if (tokens.get(i).equals("?")) throw new Fault(1, places.get(i));
            return tokens.get(i);
        }

        Fault fault(int kind) {
            return new Fault(kind, places.get(i));
        }

        boolean is(String s) {
            return here().equals(s);
        }

        boolean skip(String s) {
            if (!is(s)) return false;
            i++;
            return true;
        }

        void must(String s) {
            if (!skip(s)) throw fault(2);
        }

        int number(int a, int b) {
            if (!here().matches("[0-9]+")) throw fault(2);
            int v = Integer.parseInt(here());
            if (v < a || v > b) throw fault(4);
            i++;
            return v;
        }

        String name() {
            if (!here().matches("[a-z]{1,8}") || RESERVED.contains(here())) throw fault(2);
            return here();
        }
    }

    static World readWell(String t) {
        Text x = new Text(t);
        World w = new World();
        List<String> people = new ArrayList<>();
        List<String> ropes = new ArrayList<>();
        boolean water = false;
        while (!x.is("")) {
            if (x.is("water")) {
                if (water) throw x.fault(5);
                water = true;
                x.i++;
                w.water = x.number(0, 999);
                x.must("bottom");
                w.bottom = x.number(0, 999);
                if (x.skip("sinks")) w.sinks = x.number(0, 99);
                if (x.skip("rain")) {
                    w.rain = x.number(0, 16);
                    x.must("by");
                    w.by = x.number(0, 99);
                }
            } else if (x.is("person")) {
                if (people.size() == 8) throw x.fault(6);
                x.i++;
                String name = newName(x, people, ropes);
                w.parents.add(x.skip("of") ? known(x, people) : null);
                w.deaths.add(x.skip("dies") ? Integer.valueOf(x.number(1, 200)) : null);
                people.add(name);
            } else if (x.is("rope")) {
                if (ropes.size() == 6) throw x.fault(6);
                x.i++;
                String name = newName(x, people, ropes);
                Rope r = new Rope();
                x.must("of");
                r.owner = known(x, people);
                do {
                    if (r.pieces.size() == 4) throw x.fault(6);
                    x.must("yards");
                    int yards = x.number(1, 200);
                    x.must("age");
                    r.pieces.add(new Piece(yards, x.number(0, 300)));
                } while (x.is("yards"));
                r.holy = x.skip("holy");
                r.slips = x.skip("slips") ? x.number(0, 15) : 0;
                w.ropes.put(ropes.size(), r);
                ropes.add(name);
            } else if (x.is("flood")) {
                if (w.floods.size() == 4) throw x.fault(6);
                x.i++;
                int from = x.number(0, 200);
                x.must("to");
                int to = x.number(from, 200);
                x.must("by");
                w.floods.add(new int[] {from, to, x.number(1, 999)});
            } else {
                throw x.fault(2);
            }
            x.must(";");
        }
        return w;
    }

    static String newName(Text x, List<String> people, List<String> ropes) {
        String name = x.name();
        if (people.contains(name) || ropes.contains(name)) throw x.fault(3);
        x.i++;
        return name;
    }

    static Integer known(Text x, List<String> people) {
        int p = people.indexOf(x.name());
        if (p < 0) throw x.fault(3);
        x.i++;
        return p;
    }

    static List<Rule> readLaw(String t) {
        Text x = new Text(t);
        List<Rule> law = new ArrayList<>();
        int[] cases = {0};
        while (!x.is("")) {
            if (!x.is("if")) throw x.fault(2);
            if (law.size() == 12) throw x.fault(6);
            x.i++;
            Rule rule = new Rule();
            rule.ask = either(x, 0, cases);
            x.must("give");
            rule.whom = x.here();
            if (!Arrays.asList("eldest", "youngest", "poorest", "each", "well").contains(rule.whom)) throw x.fault(2);
            x.i++;
            x.must(";");
            law.add(rule);
        }
        return law;
    }

    static Ask either(Text x, int level, int[] cases) {
        Ask a = both(x, level, cases);
        while (x.skip("or")) {
            Ask l = a;
            Ask r = both(x, level, cases);
            a = (w, rope, h) -> l.so(w, rope, h) || r.so(w, rope, h);
        }
        return a;
    }

    static Ask both(Text x, int level, int[] cases) {
        Ask a = one(x, level, cases);
        while (x.skip("and")) {
            Ask l = a;
            Ask r = one(x, level, cases);
            a = (w, rope, h) -> l.so(w, rope, h) && r.so(w, rope, h);
        }
        return a;
    }

    static Ask one(Text x, int level, int[] cases) {
        String word = x.here();
        boolean leaf = Arrays.asList("holy", "reaches", "yards", "reach", "knots", "age", "heirs", "year").contains(word);
        if (!leaf && !word.equals("not") && !word.equals("(")) throw x.fault(2);
        if (leaf && cases[0] == 24) throw x.fault(6);
        if (level == 6) throw x.fault(7);
        x.i++;
        if (word.equals("not")) {
            Ask a = one(x, level + 1, cases);
            return (w, rope, h) -> !a.so(w, rope, h);
        }
        if (word.equals("(")) {
            Ask a = either(x, level + 1, cases);
            x.must(")");
            return a;
        }
        cases[0]++;
        if (word.equals("holy")) return (w, rope, h) -> rope.holy;
        if (word.equals("reaches")) return (w, rope, h) -> rope.reach() >= w.depth();
        String sign = x.here();
        if (!Arrays.asList("<", ">", "=").contains(sign)) throw x.fault(2);
        x.i++;
        int n = x.number(0, 999);
        return (w, rope, h) -> {
            int v = fact(word, w, rope, h);
            return sign.equals("<") ? v < n : sign.equals(">") ? v > n : v == n;
        };
    }

    static int fact(String word, World w, Rope rope, List<Integer> h) {
        switch (word) {
            case "yards": return rope.yards();
            case "reach": return rope.reach();
            case "knots": return rope.pieces.size() - 1;
            case "age": return rope.told() + w.year;
            case "heirs": return h.size();
            default: return w.year;
        }
    }

    // ---- the face

    private final long[][] trays = new long[4][];
    private final int[] sorts = new int[4];
    private String tape = "";
    private World w = new World();
    private final List<World> marks = new ArrayList<>();
    int status = 0;
    long top = 0;
    long bottom = 1;
    private int faultKind = -1;
    private int faultPlace = -1;

    private int no(int s) {
        status = s;
        return -1;
    }

    private int yes(int v) {
        status = 0;
        return v;
    }

    private boolean fraction(long a, long b) {
        long g = java.math.BigInteger.valueOf(a).gcd(java.math.BigInteger.valueOf(b)).longValue();
        top = a / g;
        bottom = b / g;
        status = 0;
        return true;
    }

    private boolean fails(int s) {
        status = s;
        return s != 0;
    }

    private boolean noPerson(int p) {
        return p < 0 || p >= w.parents.size();
    }

    private boolean badAhead(int a) {
        return a < 0 || a > 100 || w.year + a > 200;
    }

    boolean tray(int tray, int sort, int many) {
        if (fails(tray < 0 || tray > 3 || sort < 0 || sort > 3 ? 1 : many > 60 ? 5 : many < 0 ? 6 : 0)) return false;
        trays[tray] = new long[many];
        sorts[tray] = sort;
        return true;
    }

    boolean write(int tray, int place, long v) {
        if (fails(place(tray, place))) return false;
        int bits = 8 << sorts[tray];
        trays[tray][place] = v << 64 - bits >> 64 - bits;
        return true;
    }

    long read(int tray, int place) {
        return fails(place(tray, place)) ? -1 : trays[tray][place];
    }

    private int place(int tray, int place) {
        return tray < 0 || tray > 3 ? 1 : trays[tray] == null ? 3 : place < 0 || place >= trays[tray].length ? 4 : 0;
    }

    boolean pour(int tray, int i, int to, int j, int many) {
        if (tray < 0 || tray > 3 || to < 0 || to > 3) return !fails(1);
        if (trays[tray] == null || trays[to] == null) return !fails(3);
        if (sorts[tray] != sorts[to]) return !fails(11);
        if (many < 0) return !fails(6);
        if (i < 0 || j < 0 || (long) i + many > trays[tray].length || (long) j + many > trays[to].length) return !fails(4);
        long[] were = trays[tray].clone();
        for (int k = 0; k < many; k++) trays[to][j + k] = were[i + k];
        return !fails(0);
    }

    int feed(int a, int b, int c, int d, int e) {
        if (tape.length() + 20 > 900) return -1;
        StringBuilder more = new StringBuilder();
        for (int v : new int[] {a, b, c, d, e}) {
            for (int k = 3; k >= 0; k--) more.append((char) (v >>> 8 * k & 255));
        }
        tape += more;
        return tape.length();
    }

    int well(int n) {
        if (n < 0 || n > tape.length()) return no(5);
        String text = tape.substring(0, n);
        tape = "";
        try {
            w = readWell(text);
        } catch (Fault f) {
            return faulty(f);
        }
        faultKind = 0;
        faultPlace = -1;
        return yes(w.parents.size());
    }

    int law(int n) {
        if (n < 0 || n > tape.length() || n > 300) return no(5);
        String text = tape.substring(0, n);
        tape = "";
        try {
            w.law = readLaw(text);
        } catch (Fault f) {
            return faulty(f);
        }
        faultKind = 0;
        faultPlace = -1;
        return yes(w.law.size());
    }

    private int faulty(Fault f) {
        faultKind = f.kind;
        faultPlace = f.place;
        return no(10);
    }

    int fault(int what) {
        return what == 0 ? faultKind : what == 1 ? faultPlace : -1;
    }

    int many(int what) {
        if (what < 0 || what > 6) return no(5);
        return yes(new int[] {w.parents.size(), w.ropes.size(), w.law.size(), w.year, w.depth(), w.bottom, w.s}[what]);
    }

    int person(int p, int what) {
        if (noPerson(p)) return no(2);
        if (what < 0 || what > 4) return no(5);
        if (what < 2) {
            Integer v = what == 0 ? w.parents.get(p) : w.deaths.get(p);
            return v == null ? no(8) : yes(v);
        }
        return yes(what == 2 ? (w.alive(p) ? 1 : 0) : what == 3 ? w.own(p) : w.held(p));
    }

    int heirs(int p) {
        if (noPerson(p)) return no(2);
        int set = 0;
        for (int h : w.heirs(p)) set |= 1 << h;
        return yes(set);
    }

    int rope(int rope, int what) {
        Rope r = w.ropes.get(rope);
        if (r == null) return no(2);
        switch (what) {
            case 0: return yes(r.owner == null ? -1 : r.owner);
            case 1: return r.borrower == null ? no(8) : yes(r.borrower);
            case 2: return yes(r.pieces.size());
            case 3: return yes(r.yards());
            case 4: return yes(r.reach());
            case 5: return yes(r.told() + w.year);
            case 6: return yes(r.holy ? 1 : 0);
            case 7: return yes(r.slips);
            default: return no(5);
        }
    }

    int piece(int rope, int k, int what) {
        Rope r = w.ropes.get(rope);
        if (r == null) return no(2);
        if (k < 0 || k >= r.pieces.size() || what < 0 || what > 1) return no(5);
        return yes(what == 0 ? r.pieces.get(k).yards : r.pieces.get(k).told + w.year);
    }

    boolean seed(int seed) {
        if (fails(seed < 0 || seed > 9999 ? 5 : 0)) return false;
        w.s = seed;
        return true;
    }

    int pass(int years) {
        if (years < 1 || years > 50 || w.year + years > 200) return no(5);
        for (int i = 0; i < years; i++) w.passYear();
        return yes(w.year);
    }

    int drinks(int p) {
        return noPerson(p) ? no(2) : yes(w.drinks(p) ? 1 : 0);
    }

    int who() {
        return yes(w.drinkers());
    }

    private World ahead(int years) {
        World then = w.copy();
        for (int i = 0; i < years; i++) then.passYear();
        return then;
    }

    int depth(int a) {
        return badAhead(a) ? no(5) : yes(ahead(a).depth());
    }

    int whoThen(int a) {
        return badAhead(a) ? no(5) : yes(ahead(a).drinkers());
    }

    int owner(int rope, int a) {
        if (!w.ropes.containsKey(rope)) return no(2);
        if (badAhead(a)) return no(5);
        Integer o = ahead(a).ropes.get(rope).owner;
        return yes(o == null ? -1 : o);
    }

    int thirst(int p) {
        if (noPerson(p)) return no(2);
        for (int a = 0; !badAhead(a); a++) {
            World then = ahead(a);
            if (then.alive(p) && !then.drinks(p)) return yes(a);
        }
        return no(8);
    }

    int last(int what) {
        if (what < 0 || what > 1) return no(5);
        for (int a = 100; a >= 0; a--) {
            if (badAhead(a)) continue;
            int set = ahead(a).drinkers();
            if (set != 0) return yes(what == 1 ? a : Integer.numberOfTrailingZeros(set));
        }
        return no(8);
    }

    boolean odds(int p, int a, int seed, int many) {
        if (noPerson(p)) return !fails(2);
        if (badAhead(a) || seed < 0 || many < 1 || many > 20 || (long) seed + many - 1 > 9999) return !fails(5);
        int good = 0;
        for (int i = 0; i < many; i++) {
            World then = w.copy();
            then.s = seed + i;
            for (int y = 0; y < a; y++) then.passYear();
            if (then.drinks(p)) good++;
        }
        return fraction(good, many);
    }

    int knot(int a, int b) {
        Rope r = w.ropes.get(a);
        Rope q = w.ropes.get(b);
        if (r == null || q == null || a == b) return no(2);
        if (r.pieces.size() + q.pieces.size() > 8) return no(7);
        if (!java.util.Objects.equals(r.owner, q.owner) || r.holy || q.holy || r.borrower != null || q.borrower != null) return no(9);
        r.pieces.addAll(q.pieces);
        r.slips = Math.max(r.slips, q.slips);
        w.ropes.remove(b);
        return yes(r.pieces.size());
    }

    int undo(int rope, int knot) {
        Rope r = w.ropes.get(rope);
        if (r == null) return no(2);
        if (knot < 1 || knot > r.pieces.size() - 1) return no(5);
        if (w.ropes.size() == 12) return no(7);
        if (r.holy || r.borrower != null) return no(9);
        Rope n = new Rope();
        n.owner = r.owner;
        n.slips = r.slips;
        n.pieces.addAll(r.pieces.subList(knot, r.pieces.size()));
        r.pieces = new ArrayList<>(r.pieces.subList(0, knot));
        int number = w.newNumber();
        w.ropes.put(number, n);
        return yes(number);
    }

    int cut(int rope, int yards) {
        Rope r = w.ropes.get(rope);
        if (r == null) return no(2);
        if (yards < 1 || yards > r.yards() - 1) return no(5);
        if (w.ropes.size() == 12) return no(7);
        if (r.holy || r.borrower != null) return no(9);
        return yes(cutOff(r, yards));
    }

    private int cutOff(Rope r, int yards) {
        Rope n = new Rope();
        n.owner = r.owner;
        n.slips = r.slips;
        int all = r.yards();
        n.pieces = between(r.pieces, all - yards, all);
        r.pieces = between(r.pieces, 0, all - yards);
        int number = w.newNumber();
        w.ropes.put(number, n);
        return number;
    }

    int sell(int rope, int yards, int p) {
        Rope r = w.ropes.get(rope);
        if (r == null || noPerson(p)) return no(2);
        if (yards < 1 || yards > r.yards()) return no(5);
        boolean all = yards == r.yards();
        if (!all && w.ropes.size() == 12) return no(7);
        if (r.holy || r.borrower != null || !w.alive(p) || r.owner != null && r.owner == p) return no(9);
        int price = yards * (1 + w.alive() - Integer.bitCount(w.drinkers()));
        (all ? r : w.ropes.get(cutOff(r, yards))).owner = p;
        return yes(price);
    }

    int lend(int rope, int p) {
        Rope r = w.ropes.get(rope);
        if (r == null || noPerson(p)) return no(2);
        if (r.borrower != null || !w.alive(p) || r.owner != null && r.owner == p) return no(9);
        r.borrower = p;
        return yes(w.held(p));
    }

    int takeBack(int rope) {
        Rope r = w.ropes.get(rope);
        if (r == null) return no(2);
        if (r.borrower == null) return no(8);
        int had = r.borrower;
        r.borrower = null;
        return yes(had);
    }

    int dig(int yards) {
        if (yards == 0 || Math.abs((long) yards) > 99) return no(5);
        w.bottom = Math.min(999, Math.max(0, w.bottom + yards));
        return yes(w.bottom);
    }

    int led(int rope, int yard) {
        Rope r = w.ropes.get(rope);
        if (r == null) return no(2);
        List<Integer> all = r.yardByYard();
        return yard < 0 || yard >= all.size() ? no(5) : yes(all.get(yard) + w.year);
    }

    boolean share(int p) {
        if (noPerson(p)) return !fails(2);
        if (w.ropes.isEmpty()) return !fails(8);
        int all = 0;
        for (Rope r : w.ropes.values()) all += r.yards();
        return fraction(w.own(p), all);
    }

    int heirloom(int p) {
        if (noPerson(p)) return no(2);
        int found = -1;
        for (int k : w.ropes.keySet()) {
            Rope r = w.ropes.get(k);
            if (r.owner == null || r.owner != p) continue;
            if (found < 0 || r.told() > w.ropes.get(found).told()) found = k;
        }
        return found < 0 ? no(8) : yes(found);
    }

    int yardsOf(int from, int to) {
        if (from < 0 || to < from) return no(5);
        int sum = 0;
        for (Rope r : w.ropes.values()) {
            for (int told : r.yardByYard()) if (told + w.year >= from && told + w.year <= to) sum++;
        }
        return yes(sum);
    }

    int needed() {
        int set = 0;
        int drink = Integer.bitCount(w.drinkers());
        for (int k : new ArrayList<>(w.ropes.keySet())) {
            Rope r = w.ropes.remove(k);
            if (Integer.bitCount(w.drinkers()) < drink) set |= 1 << k;
            w.ropes.put(k, r);
        }
        return yes(set);
    }

    private int fewest;

    /** Every way to hand out the ropes to so many, or to leave them, is tried; -1 if none serves. */
    int knotsFor(int people) {
        if (people == 0) return 0;
        if (w.depth() > w.bottom) return -1;
        fewest = -1;
        hand(new ArrayList<>(w.ropes.values()), 0, new int[people], new int[people], new boolean[people]);
        return fewest;
    }

    private void hand(List<Rope> ropes, int i, int[] reach, int[] count, boolean[] holy) {
        int people = reach.length;
        int knots = 0;
        int left = 0;
        for (int p = 0; p < people; p++) {
            if (count[p] > 0) knots += count[p] - 1;
            if (count[p] == 0 || reach[p] < w.depth()) left++;
        }
        if (left == 0 && (fewest < 0 || knots < fewest)) fewest = knots;
        if (i == ropes.size() || ropes.size() - i < left || fewest >= 0 && knots >= fewest) return;
        Rope r = ropes.get(i);
        hand(ropes, i + 1, reach, count, holy);
        for (int p = 0; p < people; p++) {
            boolean first = count[p] == 0;
            if (!first && (reach[p] >= w.depth() || r.holy || holy[p])) continue;
            int before = reach[p];
            reach[p] = first ? r.reach() : before + r.reach() - 1;
            count[p]++;
            boolean was = holy[p];
            holy[p] = was || r.holy;
            hand(ropes, i + 1, reach, count, holy);
            holy[p] = was;
            count[p]--;
            reach[p] = before;
            // Empty hands are all alike.
            if (first) break;
        }
    }

    int plan() {
        if (w.alive() == 0) return no(8);
        int knots = knotsFor(w.alive());
        return knots < 0 ? no(9) : yes(knots);
    }

    int spread(int knots) {
        if (knots < 0 || knots > 11) return no(5);
        for (int n = w.alive(); n > 0; n--) {
            int more = knotsFor(n);
            if (more >= 0 && more <= knots) return yes(n);
        }
        return yes(0);
    }

    boolean holds(int rope) {
        Rope r = w.ropes.get(rope);
        if (r == null) return !fails(2);
        long[] f = odds(r);
        return fraction(f[0], f[1]);
    }

    private static long[] odds(Rope r) {
        long a = 1;
        long b = 1;
        for (int k = 1; k < r.pieces.size(); k++) {
            a *= 16 - r.slips;
            b *= 16;
        }
        return new long[] {a, b};
    }

    int best(int p) {
        if (noPerson(p)) return no(2);
        if (!w.drinks(p)) return no(8);
        int found = -1;
        double most = -1;
        for (int k : w.ropes.keySet()) {
            Rope r = w.ropes.get(k);
            long[] f = odds(r);
            // Such fractions are told by a double without any loss.
            double v = (double) f[0] / f[1];
            if (w.holds(p, r) && r.reach() >= w.depth() && v > most) {
                found = k;
                most = v;
            }
        }
        return yes(found);
    }

    private int minutes(int p) {
        int least = 99;
        for (Rope r : w.ropes.values()) {
            if (w.holds(p, r) && r.reach() >= w.depth()) least = Math.min(least, r.pieces.size() - 1);
        }
        return w.depth() * 2 + 1 + least * 3;
    }

    int drawing(int p) {
        return noPerson(p) ? no(2) : !w.drinks(p) ? no(8) : yes(minutes(p));
    }

    private int queue(int tray, int many) {
        if (tray < 0 || tray > 3) return 1;
        if (trays[tray] == null) return 3;
        if (trays[tray].length < many) return 4;
        if (many < 1 || many > 8) return 5;
        List<Long> seen = new ArrayList<>();
        for (int i = 0; i < many; i++) {
            long v = trays[tray][i];
            if (v < 0 || v >= w.parents.size() || seen.contains(v)) return 5;
            seen.add(v);
        }
        for (long v : seen) if (!w.drinks((int) v)) return 9;
        return 0;
    }

    int waiting(int tray, int many) {
        if (fails(queue(tray, many))) return -1;
        List<Integer> row = new ArrayList<>();
        for (int i = 0; i < many; i++) row.add(minutes((int) trays[tray][i]));
        return together(row);
    }

    private static int together(List<Integer> row) {
        int sum = 0;
        for (int i = 0; i < row.size(); i++) for (int j = 0; j < i; j++) sum += row.get(j);
        return sum;
    }

    int leastWaiting(int tray, int many) {
        if (fails(queue(tray, many))) return -1;
        List<Integer> row = new ArrayList<>();
        for (int i = 0; i < many; i++) row.add(minutes((int) trays[tray][i]));
        return many <= 6 ? leastOf(row, new ArrayList<>()) : sorted(row);
    }

    private static int sorted(List<Integer> row) {
        row.sort(null);
        return together(row);
    }

    /** The least of all orders. */
    private static int leastOf(List<Integer> left, List<Integer> row) {
        if (left.isEmpty()) return together(row);
        int least = Integer.MAX_VALUE;
        for (int i = 0; i < left.size(); i++) {
            List<Integer> rest = new ArrayList<>(left);
            List<Integer> longer = new ArrayList<>(row);
            longer.add(rest.remove(i));
            least = Math.min(least, leastOf(rest, longer));
        }
        return least;
    }

    int people() {
        return w.parents.size();
    }

    List<Integer> ropeNumbers() {
        return new ArrayList<>(w.ropes.keySet());
    }

    int mark() {
        if (marks.size() == 3) return no(7);
        marks.add(w.copy());
        return yes(marks.size());
    }

    int back() {
        if (marks.isEmpty()) return no(8);
        w = marks.remove(marks.size() - 1);
        return yes(marks.size());
    }
}
