import java.util.Arrays;

/** A well whose water sinks from age to age, its people, and the ropes that they inherit, knot, cut, sell and lend. */
public final class WellHeirs {
    public static final int NONE = -1;

    private static final int FINE = 0;
    private static final int NO_TRAY = 1;
    private static final int UNKNOWN = 2;
    private static final int MISSING = 3;
    private static final int NO_PLACE = 4;
    private static final int BAD_NUMBER = 5;
    private static final int BELOW_ZERO = 6;
    private static final int TOO_MANY = 7;
    private static final int NOTHING = 8;
    private static final int CANNOT_BE = 9;
    private static final int FAULTY = 10;
    private static final int UNLIKE = 11;

    private static final int TRAYS = 4;
    private static final int SORTS = 4;
    private static final int TRAY_LIMIT = 60;
    private static final int TAPE_LIMIT = 900;
    private static final int LAW_LIMIT = 300;
    private static final int MARKS = 3;
    private static final int PEOPLE = 8;
    private static final int ROPES = 12;
    private static final int PIECES = 8;
    private static final int FLOODS = 4;
    private static final int LAST_YEAR = 200;
    private static final int DEEPEST = 999;
    private static final int FAR = 100;
    private static final int LAST_SEED = 9999;

    private static final int HOLY = 0;
    private static final int REACHES = 1;
    private static final int OF_YARDS = 2;
    private static final int OF_REACH = 3;
    private static final int OF_KNOTS = 4;
    private static final int OF_AGE = 5;
    private static final int OF_HEIRS = 6;
    private static final int OF_YEAR = 7;
    private static final int FACTS = 8;

    private static final int ELDEST = 0;
    private static final int YOUNGEST = 1;
    private static final int POOREST = 2;
    private static final int EACH = 3;
    private static final int THE_WELL = 4;

    private final Tray[] trays = new Tray[TRAYS];
    private final byte[] tape = new byte[TAPE_LIMIT];
    private int taped = 0;
    private final World now = new World();
    private final World then = new World();
    /** Made when they are first needed, and used again: most objects have no mark. */
    private final World[] marks = new World[MARKS];
    private int marked = 0;
    private final WellReader wellReader;
    private final LawReader lawReader;
    private final Planner planner = new Planner();
    private final int[] minutes = new int[PEOPLE];
    private int state = FINE;
    private long fractionTop = 0;
    private long fractionBottom = 1;
    private int faultKind = NONE;
    private int faultPlace = NONE;

    public WellHeirs() {
        for (int i = 0; i < TRAYS; i++) {
            trays[i] = new Tray();
        }
        Tokens tokens = new Tokens(tape);
        wellReader = new WellReader(tokens, then);
        lawReader = new LawReader(tokens);
    }

    public int status() {
        return state;
    }

    public long top() {
        return fractionTop;
    }

    public long bottom() {
        return fractionBottom;
    }

    // ---- TRAYS

    public boolean tray(int tray, int sort, int many) {
        if (!isTray(tray) || sort < 0 || sort >= SORTS) {
            return refuse(NO_TRAY);
        }
        if (many > TRAY_LIMIT) {
            return refuse(BAD_NUMBER);
        }
        if (many < 0) {
            return refuse(BELOW_ZERO);
        }
        trays[tray].lay(sort, many);
        return accept();
    }

    public boolean write(int tray, int place, long v) {
        int wrong = placeStatus(tray, place);
        if (wrong != FINE) {
            return refuse(wrong);
        }
        trays[tray].put(place, v);
        return accept();
    }

    public long read(int tray, int place) {
        int wrong = placeStatus(tray, place);
        if (wrong != FINE) {
            return none(wrong);
        }
        state = FINE;
        return trays[tray].numbers[place];
    }

    public boolean pour(int tray, int i, int to, int j, int many) {
        int wrong = pourStatus(tray, i, to, j, many);
        if (wrong != FINE) {
            return refuse(wrong);
        }
        System.arraycopy(trays[tray].numbers, i, trays[to].numbers, j, many);
        return accept();
    }

    private int placeStatus(int tray, int place) {
        if (!isTray(tray)) {
            return NO_TRAY;
        }
        if (trays[tray].isMissing()) {
            return MISSING;
        }
        return place < 0 || place >= trays[tray].length ? NO_PLACE : FINE;
    }

    private int pourStatus(int tray, int i, int to, int j, int many) {
        if (!isTray(tray) || !isTray(to)) {
            return NO_TRAY;
        }
        Tray from = trays[tray];
        Tray into = trays[to];
        if (from.isMissing() || into.isMissing()) {
            return MISSING;
        }
        if (from.sort != into.sort) {
            return UNLIKE;
        }
        if (many < 0) {
            return BELOW_ZERO;
        }
        return from.has(i, many) && into.has(j, many) ? FINE : NO_PLACE;
    }

    // ---- texts

    public int feed(int a, int b, int c, int d, int e) {
        if (taped > TAPE_LIMIT - 20) {
            return NONE;
        }
        putOnTape(a);
        putOnTape(b);
        putOnTape(c);
        putOnTape(d);
        putOnTape(e);
        return taped;
    }

    private void putOnTape(int four) {
        for (int shift = 24; shift >= 0 && taped < TAPE_LIMIT; shift -= 8) {
            tape[taped] = (byte) (four >> shift);
            taped++;
        }
    }

    public int well(int n) {
        if (n < 0 || n > taped) {
            return none(BAD_NUMBER);
        }
        taped = 0;
        boolean taken = wellReader.readWell(n);
        noteFault(wellReader.tokens);
        if (!taken) {
            return none(FAULTY);
        }
        now.copyFrom(then);
        return tell(now.people);
    }

    public int law(int n) {
        if (n < 0 || n > taped || n > LAW_LIMIT) {
            return none(BAD_NUMBER);
        }
        taped = 0;
        boolean taken = lawReader.readLaw(n);
        noteFault(lawReader.tokens);
        if (!taken) {
            return none(FAULTY);
        }
        now.law = lawReader.made();
        return tell(lawReader.rules);
    }

    private void noteFault(Tokens tokens) {
        faultKind = tokens.fault;
        faultPlace = tokens.faultPlace;
    }

    public int fault(int what) {
        if (what == 0) {
            return faultKind;
        }
        return what == 1 ? faultPlace : NONE;
    }

    public int many(int what) {
        switch (what) {
            case 0:
                return tell(now.people);
            case 1:
                return tell(now.countRopes());
            case 2:
                return tell(now.law == null ? 0 : now.law.rules);
            case 3:
                return tell(now.year);
            case 4:
                return tell(now.depthNow());
            case 5:
                return tell(now.deepest);
            case 6:
                return tell(now.draws);
            default:
                return none(BAD_NUMBER);
        }
    }

    public int person(int person, int what) {
        if (!isPerson(person)) {
            return none(UNKNOWN);
        }
        switch (what) {
            case 0:
                return tellIf(now.parent[person] != NONE, now.parent[person]);
            case 1:
                return tellIf(now.dies[person] != NONE, now.dies[person]);
            case 2:
                return tell(now.isAlive(person) ? 1 : 0);
            case 3:
                return tell(now.ownYards(person));
            case 4:
                return tell(now.heldYards(person));
            default:
                return none(BAD_NUMBER);
        }
    }

    public int heirs(int person) {
        return isPerson(person) ? tell(now.heirSet(person)) : none(UNKNOWN);
    }

    public int rope(int rope, int what) {
        if (!isRope(rope)) {
            return none(UNKNOWN);
        }
        Rope asked = now.ropes[rope];
        switch (what) {
            case 0:
                return tell(asked.owner);
            case 1:
                return tellIf(asked.borrower != NONE, asked.borrower);
            case 2:
                return tell(asked.pieces);
            case 3:
                return tell(asked.length);
            case 4:
                return tell(asked.reach());
            case 5:
                return tell(asked.oldest() + now.year);
            case 6:
                return tell(asked.holy ? 1 : 0);
            case 7:
                return tell(asked.slips);
            default:
                return none(BAD_NUMBER);
        }
    }

    public int piece(int rope, int k, int what) {
        if (!isRope(rope)) {
            return none(UNKNOWN);
        }
        Rope asked = now.ropes[rope];
        if (k < 0 || k >= asked.pieces || what < 0 || what > 1) {
            return none(BAD_NUMBER);
        }
        return tell(what == 0 ? asked.yards[k] : asked.age[k] + now.year);
    }

    // ---- years

    public boolean seed(int seed) {
        if (!isSeed(seed)) {
            return refuse(BAD_NUMBER);
        }
        now.draws = seed;
        return accept();
    }

    public int pass(int years) {
        if (years < 1 || years > 50 || years > LAST_YEAR - now.year) {
            return none(BAD_NUMBER);
        }
        for (int i = 0; i < years; i++) {
            now.passYear();
        }
        return tell(now.year);
    }

    public int drinks(int person) {
        if (!isPerson(person)) {
            return none(UNKNOWN);
        }
        return tell(now.isDrinking(person) ? 1 : 0);
    }

    public int who() {
        return tell(now.drinkers());
    }

    public int depth(int ahead) {
        if (!isAhead(ahead)) {
            return none(BAD_NUMBER);
        }
        lookAhead(ahead, now.draws);
        return tell(then.depthNow());
    }

    public int whoThen(int ahead) {
        if (!isAhead(ahead)) {
            return none(BAD_NUMBER);
        }
        lookAhead(ahead, now.draws);
        return tell(then.drinkers());
    }

    public int owner(int rope, int ahead) {
        if (!isRope(rope)) {
            return none(UNKNOWN);
        }
        if (!isAhead(ahead)) {
            return none(BAD_NUMBER);
        }
        lookAhead(ahead, now.draws);
        return tell(then.ropes[rope].owner);
    }

    public int thirst(int person) {
        if (!isPerson(person)) {
            return none(UNKNOWN);
        }
        then.copyFrom(now);
        int far = yearsLeft();
        for (int ahead = 0; ahead <= far; ahead++) {
            if (then.isAlive(person) && !then.isDrinking(person)) {
                return tell(ahead);
            }
            then.passYear();
        }
        return none(NOTHING);
    }

    public int last(int what) {
        if (what < 0 || what > 1) {
            return none(BAD_NUMBER);
        }
        then.copyFrom(now);
        int far = yearsLeft();
        int latest = NONE;
        int drinkers = 0;
        for (int ahead = 0; ahead <= far; ahead++) {
            int set = then.drinkers();
            if (set != 0) {
                latest = ahead;
                drinkers = set;
            }
            then.passYear();
        }
        return tellIf(latest != NONE, what == 0 ? World.leastOf(drinkers) : latest);
    }

    public boolean odds(int person, int ahead, int seed, int many) {
        if (!isPerson(person)) {
            return refuse(UNKNOWN);
        }
        if (!isAhead(ahead) || !isSeed(seed) || many < 1 || many > 20 || !isSeed(seed + many - 1)) {
            return refuse(BAD_NUMBER);
        }
        int good = 0;
        for (int i = 0; i < many; i++) {
            lookAhead(ahead, seed + i);
            if (then.isDrinking(person)) {
                good++;
            }
        }
        return tellFraction(good, many);
    }

    private void lookAhead(int ahead, int draws) {
        then.copyFrom(now);
        then.draws = draws;
        for (int i = 0; i < ahead; i++) {
            then.passYear();
        }
    }

    private int yearsLeft() {
        return Math.min(FAR, LAST_YEAR - now.year);
    }

    // ---- by hand

    public int knot(int a, int b) {
        if (!isRope(a) || !isRope(b) || a == b) {
            return none(UNKNOWN);
        }
        Rope first = now.ropes[a];
        Rope second = now.ropes[b];
        if (first.pieces + second.pieces > PIECES) {
            return none(TOO_MANY);
        }
        if (first.owner != second.owner || !first.isFree() || !second.isFree()) {
            return none(CANNOT_BE);
        }
        first.tieOn(second);
        return tell(first.pieces);
    }

    public int undo(int rope, int knot) {
        if (!isRope(rope)) {
            return none(UNKNOWN);
        }
        Rope whole = now.ropes[rope];
        if (knot < 1 || knot >= whole.pieces) {
            return none(BAD_NUMBER);
        }
        return part(whole, whole.lengthOf(knot));
    }

    public int cut(int rope, int yards) {
        if (!isRope(rope)) {
            return none(UNKNOWN);
        }
        Rope whole = now.ropes[rope];
        int length = whole.length;
        if (yards < 1 || yards >= length) {
            return none(BAD_NUMBER);
        }
        return part(whole, length - yards);
    }

    /** What lies below so many yards of a rope becomes a rope of its own: its number. */
    private int part(Rope whole, int kept) {
        int number = now.freeRope();
        if (number == NONE) {
            return none(TOO_MANY);
        }
        if (!whole.isFree()) {
            return none(CANNOT_BE);
        }
        whole.splitAt(kept, now.ropes[number]);
        return tell(number);
    }

    public int sell(int rope, int yards, int person) {
        if (!isRope(rope) || !isPerson(person)) {
            return none(UNKNOWN);
        }
        Rope whole = now.ropes[rope];
        int length = whole.length;
        if (yards < 1 || yards > length) {
            return none(BAD_NUMBER);
        }
        int number = yards == length ? rope : now.freeRope();
        if (number == NONE) {
            return none(TOO_MANY);
        }
        if (!whole.isFree() || !now.isAlive(person) || whole.owner == person) {
            return none(CANNOT_BE);
        }
        int price = yards * (1 + now.countThirsty());
        if (number != rope) {
            whole.splitAt(length - yards, now.ropes[number]);
        }
        now.ropes[number].owner = person;
        return tell(price);
    }

    public int lend(int rope, int person) {
        if (!isRope(rope) || !isPerson(person)) {
            return none(UNKNOWN);
        }
        Rope lent = now.ropes[rope];
        if (lent.borrower != NONE || !now.isAlive(person) || lent.owner == person) {
            return none(CANNOT_BE);
        }
        lent.borrower = person;
        return tell(now.heldYards(person));
    }

    public int takeBack(int rope) {
        if (!isRope(rope)) {
            return none(UNKNOWN);
        }
        int had = now.ropes[rope].borrower;
        now.ropes[rope].borrower = NONE;
        return tellIf(had != NONE, had);
    }

    public int dig(int yards) {
        if (yards == 0 || yards < -99 || yards > 99) {
            return none(BAD_NUMBER);
        }
        now.deepest = Math.max(0, Math.min(DEEPEST, now.deepest + yards));
        return tell(now.deepest);
    }

    // ---- what is what

    public int led(int rope, int yard) {
        if (!isRope(rope)) {
            return none(UNKNOWN);
        }
        Rope asked = now.ropes[rope];
        int k = yard < 0 ? NONE : asked.pieceAt(yard);
        return k == NONE ? none(BAD_NUMBER) : tell(asked.age[k] + now.year);
    }

    public boolean share(int person) {
        if (!isPerson(person)) {
            return refuse(UNKNOWN);
        }
        int all = now.allYards();
        return all == 0 ? refuse(NOTHING) : tellFraction(now.ownYards(person), all);
    }

    public int heirloom(int person) {
        if (!isPerson(person)) {
            return none(UNKNOWN);
        }
        int found = NONE;
        int oldest = NONE;
        for (int r = 0; r < ROPES; r++) {
            Rope asked = now.ropes[r];
            if (asked.isThere() && asked.owner == person && asked.oldest() > oldest) {
                found = r;
                oldest = asked.oldest();
            }
        }
        return tellIf(found != NONE, found);
    }

    public int yardsOf(int from, int to) {
        if (from < 0 || to < from) {
            return none(BAD_NUMBER);
        }
        return tell(now.yardsAged(from, to));
    }

    public int needed() {
        return tell(now.neededRopes());
    }

    public int plan() {
        int alive = now.countAlive();
        if (alive == 0) {
            return none(NOTHING);
        }
        planner.weigh(now);
        int knots = planner.knotsFor(alive);
        return knots == NONE ? none(CANNOT_BE) : tell(knots);
    }

    public int spread(int knots) {
        if (knots < 0 || knots >= ROPES) {
            return none(BAD_NUMBER);
        }
        planner.weigh(now);
        for (int drinkers = now.countAlive(); drinkers > 0; drinkers--) {
            int more = planner.knotsFor(drinkers);
            if (more != NONE && more <= knots) {
                return tell(drinkers);
            }
        }
        return tell(0);
    }

    public boolean holds(int rope) {
        if (!isRope(rope)) {
            return refuse(UNKNOWN);
        }
        Rope asked = now.ropes[rope];
        return tellFraction(asked.holdsTop(), asked.holdsBottom());
    }

    public int best(int person) {
        if (!isPerson(person)) {
            return none(UNKNOWN);
        }
        if (!now.isDrinking(person)) {
            return none(NOTHING);
        }
        int found = NONE;
        int deep = now.depthNow();
        for (int r = 0; r < ROPES; r++) {
            if (now.servesFrom(r, person, deep) && (found == NONE || now.ropes[r].isSaferThan(now.ropes[found]))) {
                found = r;
            }
        }
        return tellIf(found != NONE, found);
    }

    public int drawing(int person) {
        if (!isPerson(person)) {
            return none(UNKNOWN);
        }
        int takes = now.minutesOf(person);
        return tellIf(takes != NONE, takes);
    }

    public int waiting(int tray, int many) {
        int wrong = queueStatus(tray, many);
        return wrong != FINE ? none(wrong) : tell(waitTogether(many));
    }

    public int leastWaiting(int tray, int many) {
        int wrong = queueStatus(tray, many);
        if (wrong != FINE) {
            return none(wrong);
        }
        sortMinutes(many);
        return tell(waitTogether(many));
    }

    /** The least is waited if whoever takes less goes first. */
    private void sortMinutes(int many) {
        for (int i = 1; i < many; i++) {
            int moved = minutes[i];
            int at = i;
            while (at > 0 && minutes[at - 1] > moved) {
                minutes[at] = minutes[at - 1];
                at--;
            }
            minutes[at] = moved;
        }
    }

    private int queueStatus(int tray, int many) {
        int wrong = rowStatus(tray, many);
        if (wrong != FINE) {
            return wrong;
        }
        for (int i = 0; i < many; i++) {
            minutes[i] = now.minutesOf((int) trays[tray].numbers[i]);
            if (minutes[i] == NONE) {
                wrong = CANNOT_BE;
            }
        }
        return wrong;
    }

    /** Whether the first numbers of a tray are people, none twice. */
    private int rowStatus(int tray, int many) {
        if (!isTray(tray)) {
            return NO_TRAY;
        }
        Tray row = trays[tray];
        if (row.isMissing()) {
            return MISSING;
        }
        if (many > row.length) {
            return NO_PLACE;
        }
        if (many < 1 || many > PEOPLE) {
            return BAD_NUMBER;
        }
        int seen = 0;
        for (int i = 0; i < many; i++) {
            long number = row.numbers[i];
            if (number < 0 || number >= now.people || (seen >> (int) number & 1) == 1) {
                return BAD_NUMBER;
            }
            seen |= 1 << (int) number;
        }
        return FINE;
    }

    private int waitTogether(int many) {
        int begin = 0;
        int together = 0;
        for (int i = 0; i < many; i++) {
            together += begin;
            begin += minutes[i];
        }
        return together;
    }

    // ---- MARKS

    public int mark() {
        if (marked >= MARKS) {
            return none(TOO_MANY);
        }
        if (marks[marked] == null) {
            marks[marked] = new World();
        }
        marks[marked].copyFrom(now);
        marked++;
        return tell(marked);
    }

    public int back() {
        if (marked <= 0 || marks[marked - 1] == null) {
            return none(NOTHING);
        }
        marked--;
        now.copyFrom(marks[marked]);
        return tell(marked);
    }

    // ---- what every call needs

    private boolean isTray(int tray) {
        return tray >= 0 && tray < TRAYS;
    }

    private boolean isPerson(int person) {
        return person >= 0 && person < now.people;
    }

    private boolean isRope(int rope) {
        return rope >= 0 && rope < ROPES && now.ropes[rope].isThere();
    }

    private boolean isAhead(int ahead) {
        return ahead >= 0 && ahead <= yearsLeft();
    }

    private boolean isSeed(int seed) {
        return seed >= 0 && seed <= LAST_SEED;
    }

    private boolean accept() {
        state = FINE;
        return true;
    }

    private boolean refuse(int wrong) {
        state = wrong;
        return false;
    }

    private int tell(int answer) {
        state = FINE;
        return answer;
    }

    private int none(int wrong) {
        state = wrong;
        return NONE;
    }

    private int tellIf(boolean there, int answer) {
        return there ? tell(answer) : none(NOTHING);
    }

    private boolean tellFraction(long top, long bottom) {
        long a = top;
        long b = bottom;
        for (int i = 0; i < 200 && b != 0; i++) {
            long rest = a % b;
            a = b;
            b = rest;
        }
        if (a > 0) {
            fractionTop = top / a;
            fractionBottom = bottom / a;
        }
        return accept();
    }

    /** A row of numbers of one sort; missing until it is laid. */
    private static final class Tray {
        final long[] numbers = new long[TRAY_LIMIT];
        int sort = 0;
        int length = NONE;

        boolean isMissing() {
            return length == NONE;
        }

        boolean has(int place, int count) {
            return place >= 0 && place <= length - count;
        }

        void lay(int newSort, int newLength) {
            sort = newSort;
            length = newLength;
            Arrays.fill(numbers, 0L);
        }

        void put(int place, long v) {
            switch (sort) {
                case 0:
                    numbers[place] = (byte) v;
                    break;
                case 1:
                    numbers[place] = (short) v;
                    break;
                case 2:
                    numbers[place] = (int) v;
                    break;
                default:
                    numbers[place] = v;
                    break;
            }
        }
    }

    /** Pieces from the top down, each with its age in year 0; without pieces it is gone. */
    private static final class Rope {
        int owner = NONE;
        int borrower = NONE;
        int pieces = 0;
        int length = 0;
        boolean holy = false;
        int slips = 0;
        final int[] yards = new int[PIECES];
        final int[] age = new int[PIECES];

        void copyFrom(Rope other) {
            owner = other.owner;
            borrower = other.borrower;
            pieces = other.pieces;
            length = other.length;
            holy = other.holy;
            slips = other.slips;
            System.arraycopy(other.yards, 0, yards, 0, PIECES);
            System.arraycopy(other.age, 0, age, 0, PIECES);
        }

        void clear() {
            owner = NONE;
            borrower = NONE;
            pieces = 0;
            length = 0;
            holy = false;
            slips = 0;
        }

        boolean isThere() {
            return pieces > 0;
        }

        /** Neither holy nor lent: it may be knotted, cut and sold. */
        boolean isFree() {
            return !holy && borrower == NONE;
        }

        int holder() {
            return borrower == NONE ? owner : borrower;
        }

        int lengthOf(int firstPieces) {
            int sum = 0;
            for (int k = 0; k < firstPieces && k < pieces; k++) {
                sum += yards[k];
            }
            return sum;
        }

        int knots() {
            return pieces - 1;
        }

        int reach() {
            return length - knots();
        }

        int oldest() {
            int most = 0;
            for (int k = 0; k < pieces; k++) {
                most = Math.max(most, age[k]);
            }
            return most;
        }

        int pieceAt(int yard) {
            int end = 0;
            for (int k = 0; k < pieces; k++) {
                end += yards[k];
                if (yard < end) {
                    return k;
                }
            }
            return NONE;
        }

        void add(int more, int old) {
            if (pieces < PIECES) {
                yards[pieces] = more;
                age[pieces] = old;
                pieces++;
                length += more;
            }
        }

        void tieOn(Rope second) {
            for (int k = 0; k < second.pieces; k++) {
                add(second.yards[k], second.age[k]);
            }
            slips = Math.max(slips, second.slips);
            second.clear();
        }

        /** Keeps so many yards from the top; the rest becomes the other rope, of the same owner. */
        void splitAt(int kept, Rope other) {
            other.clear();
            other.owner = owner;
            other.slips = slips;
            int stay = 0;
            int begin = 0;
            for (int k = 0; k < pieces; k++) {
                int end = begin + yards[k];
                if (end > kept) {
                    other.add(end - Math.max(begin, kept), age[k]);
                }
                if (begin < kept) {
                    yards[k] = Math.min(end, kept) - begin;
                    stay = k + 1;
                }
                begin = end;
            }
            pieces = stay;
            length = Math.min(length, kept);
        }

        long holdsTop() {
            return power(16 - slips, knots());
        }

        long holdsBottom() {
            return power(16, knots());
        }

        boolean isSaferThan(Rope other) {
            return holdsTop() * other.holdsBottom() > other.holdsTop() * holdsBottom();
        }

        private static long power(int base, int times) {
            long product = 1;
            for (int i = 0; i < times; i++) {
                product *= base;
            }
            return product;
        }
    }

    /** The well with all that became of it, and its law (null: none). */
    private static final class World {
        int year = 0;
        int water = 0;
        int deepest = 0;
        int sinks = 0;
        int rain = 0;
        int rainBy = 0;
        int draws = 0;
        int people = 0;
        final int[] parent = new int[PEOPLE];
        final int[] dies = new int[PEOPLE];
        final Rope[] ropes = new Rope[ROPES];
        int floods = 0;
        final int[] floodFrom = new int[FLOODS];
        final int[] floodTo = new int[FLOODS];
        final int[] floodBy = new int[FLOODS];
        final int[] facts = new int[FACTS];
        Law law = null;

        World() {
            for (int r = 0; r < ROPES; r++) {
                ropes[r] = new Rope();
            }
        }

        void clear() {
            year = 0;
            water = 0;
            deepest = 0;
            sinks = 0;
            rain = 0;
            rainBy = 0;
            draws = 0;
            people = 0;
            floods = 0;
            law = null;
            for (int r = 0; r < ROPES; r++) {
                ropes[r].clear();
            }
        }

        void copyFrom(World other) {
            year = other.year;
            water = other.water;
            deepest = other.deepest;
            sinks = other.sinks;
            rain = other.rain;
            rainBy = other.rainBy;
            draws = other.draws;
            people = other.people;
            floods = other.floods;
            law = other.law;
            System.arraycopy(other.parent, 0, parent, 0, PEOPLE);
            System.arraycopy(other.dies, 0, dies, 0, PEOPLE);
            System.arraycopy(other.floodFrom, 0, floodFrom, 0, FLOODS);
            System.arraycopy(other.floodTo, 0, floodTo, 0, FLOODS);
            System.arraycopy(other.floodBy, 0, floodBy, 0, FLOODS);
            for (int r = 0; r < ROPES; r++) {
                ropes[r].copyFrom(other.ropes[r]);
            }
        }

        boolean isAlive(int person) {
            return dies[person] == NONE || year < dies[person];
        }

        int countAlive() {
            int alive = 0;
            for (int p = 0; p < people; p++) {
                if (isAlive(p)) {
                    alive++;
                }
            }
            return alive;
        }

        static int leastOf(int set) {
            for (int p = 0; p < PEOPLE; p++) {
                if ((set >> p & 1) == 1) {
                    return p;
                }
            }
            return NONE;
        }

        static int greatestOf(int set) {
            for (int p = PEOPLE - 1; p >= 0; p--) {
                if ((set >> p & 1) == 1) {
                    return p;
                }
            }
            return NONE;
        }

        int heirSet(int person) {
            int set = 0;
            for (int p = 0; p < people; p++) {
                if (parent[p] == person && isAlive(p)) {
                    set |= 1 << p;
                }
            }
            return set;
        }

        int countRopes() {
            int count = 0;
            for (int r = 0; r < ROPES; r++) {
                if (ropes[r].isThere()) {
                    count++;
                }
            }
            return count;
        }

        /** The least number that no rope has, NONE if there are as many as there may be. */
        int freeRope() {
            for (int r = 0; r < ROPES; r++) {
                if (!ropes[r].isThere()) {
                    return r;
                }
            }
            return NONE;
        }

        int ownYards(int person) {
            int sum = 0;
            for (int r = 0; r < ROPES; r++) {
                if (ropes[r].isThere() && ropes[r].owner == person) {
                    sum += ropes[r].length;
                }
            }
            return sum;
        }

        int heldYards(int person) {
            int sum = 0;
            for (int r = 0; r < ROPES; r++) {
                if (ropes[r].isThere() && ropes[r].holder() == person) {
                    sum += ropes[r].length;
                }
            }
            return sum;
        }

        int allYards() {
            int sum = 0;
            for (int r = 0; r < ROPES; r++) {
                sum += ropes[r].length;
            }
            return sum;
        }

        /** Each yard has the age of its piece. */
        int yardsAged(int from, int to) {
            int sum = 0;
            for (int r = 0; r < ROPES; r++) {
                Rope rope = ropes[r];
                for (int k = 0; k < rope.pieces; k++) {
                    int old = rope.age[k] + year;
                    if (old >= from && old <= to) {
                        sum += rope.yards[k];
                    }
                }
            }
            return sum;
        }

        int depthNow() {
            int deep = water;
            for (int f = 0; f < floods; f++) {
                if (year >= floodFrom[f] && year <= floodTo[f]) {
                    deep -= floodBy[f];
                }
            }
            return Math.max(0, deep);
        }

        /** Whether a rope is held by that person and reaches down so far. */
        boolean servesFrom(int rope, int person, int deep) {
            Rope asked = ropes[rope];
            return asked.isThere() && asked.holder() == person && asked.reach() >= deep;
        }

        int drinkers() {
            int deep = depthNow();
            if (deep > deepest) {
                return 0;
            }
            int set = 0;
            for (int r = 0; r < ROPES; r++) {
                int holder = ropes[r].holder();
                if (holder != NONE && isAlive(holder) && servesFrom(r, holder, deep)) {
                    set |= 1 << holder;
                }
            }
            return set;
        }

        boolean isDrinking(int person) {
            return (drinkers() >> person & 1) == 1;
        }

        int countThirsty() {
            return countAlive() - Integer.bitCount(drinkers());
        }

        /** A rope is needed where it is the only one by which somebody drinks. */
        int neededRopes() {
            int drinkers = drinkers();
            int deep = depthNow();
            int set = 0;
            for (int p = 0; p < people; p++) {
                int serving = 0;
                for (int r = 0; r < ROPES; r++) {
                    if (servesFrom(r, p, deep)) {
                        serving |= 1 << r;
                    }
                }
                if ((drinkers >> p & 1) == 1 && Integer.bitCount(serving) == 1) {
                    set |= serving;
                }
            }
            return set;
        }

        /** NONE if that person does not drink. */
        int minutesOf(int person) {
            if (!isDrinking(person)) {
                return NONE;
            }
            int deep = depthNow();
            int fewest = PIECES;
            for (int r = 0; r < ROPES; r++) {
                if (servesFrom(r, person, deep)) {
                    fewest = Math.min(fewest, ropes[r].knots());
                }
            }
            return 2 * deep + 1 + 3 * fewest;
        }

        void passYear() {
            if (year >= LAST_YEAR) {
                return;
            }
            year++;
            water = Math.min(DEEPEST, water + sinks);
            if (rain > 0) {
                draws = (draws * 2801 + 9011) % 65536;
                if (draws / 8 % 16 < rain) {
                    water = Math.max(0, water - rainBy);
                }
            }
            for (int p = 0; p < people; p++) {
                if (dies[p] == year) {
                    bury(p);
                }
            }
        }

        private void bury(int person) {
            for (int r = 0; r < ROPES; r++) {
                if (ropes[r].borrower == person) {
                    ropes[r].borrower = NONE;
                }
            }
            int heirs = heirSet(person);
            for (int r = 0; r < ROPES; r++) {
                if (ropes[r].isThere() && ropes[r].owner == person) {
                    // Lent no more already now: who is poorest is asked without it.
                    ropes[r].borrower = NONE;
                    handDown(r, heirs);
                }
            }
        }

        private void handDown(int rope, int heirs) {
            findFacts(ropes[rope], heirs);
            int whom = law == null ? ELDEST : law.whomFor(facts);
            if (heirs == 0 || whom == THE_WELL) {
                ropes[rope].owner = NONE;
            } else if (whom == YOUNGEST) {
                ropes[rope].owner = greatestOf(heirs);
            } else if (whom == POOREST) {
                ropes[rope].owner = poorestOf(heirs);
            } else if (whom == EACH && isForEach(ropes[rope], Integer.bitCount(heirs))) {
                shareOut(rope, heirs);
            } else {
                ropes[rope].owner = leastOf(heirs);
            }
        }

        private void findFacts(Rope rope, int heirs) {
            facts[HOLY] = rope.holy ? 1 : 0;
            facts[REACHES] = rope.reach() >= depthNow() ? 1 : 0;
            facts[OF_YARDS] = rope.length;
            facts[OF_REACH] = rope.reach();
            facts[OF_KNOTS] = rope.knots();
            facts[OF_AGE] = rope.oldest() + year;
            facts[OF_HEIRS] = Integer.bitCount(heirs);
            facts[OF_YEAR] = year;
        }

        private int poorestOf(int heirs) {
            int found = NONE;
            int fewest = 0;
            for (int p = 0; p < people; p++) {
                if ((heirs >> p & 1) == 1) {
                    int yards = heldYards(p);
                    if (found == NONE || yards < fewest) {
                        found = p;
                        fewest = yards;
                    }
                }
            }
            return found;
        }

        private boolean isForEach(Rope rope, int parts) {
            return !rope.holy && rope.length >= parts && countRopes() + parts - 1 <= ROPES;
        }

        private void shareOut(int rope, int heirs) {
            int parts = Integer.bitCount(heirs);
            if (parts == 0) {
                return;
            }
            int even = ropes[rope].length / parts;
            int longer = ropes[rope].length % parts;
            int current = rope;
            int shared = 0;
            for (int p = 0; p < people && current != NONE; p++) {
                if ((heirs >> p & 1) == 1) {
                    ropes[current].owner = p;
                    shared++;
                    int rest = shared < parts ? freeRope() : NONE;
                    if (rest != NONE) {
                        ropes[current].splitAt(shared <= longer ? even + 1 : even, ropes[rest]);
                    }
                    current = rest;
                }
            }
        }
    }

    /** Rules as steps on a stack of yes and no: what is asked, not, and, or; give ends a rule. */
    private static final class Law {
        static final int ASK = 0;
        static final int NOT = 1;
        static final int AND = 2;
        static final int OR = 3;
        static final int GIVE = 4;

        final int[] steps;
        final int rules;

        Law(int[] steps, int rules) {
            this.steps = steps;
            this.rules = rules;
        }

        static int step(int sort, int what, int sign, int number) {
            return sort | what << 4 | sign << 8 | number << 16;
        }

        /** Whom the first rule that holds names; the eldest without such a rule. */
        int whomFor(int[] facts) {
            int stack = 0;
            for (int i = 0; i < steps.length; i++) {
                int upper = stack & 1;
                switch (steps[i] & 15) {
                    case ASK:
                        stack = stack << 1 | (isSo(steps[i], facts) ? 1 : 0);
                        break;
                    case NOT:
                        stack ^= 1;
                        break;
                    case AND:
                        stack = stack >>> 1 & (upper | ~1);
                        break;
                    case OR:
                        stack = stack >>> 1 | upper;
                        break;
                    default:
                        if (upper == 1) {
                            return steps[i] >> 4 & 15;
                        }
                        stack = 0;
                        break;
                }
            }
            return ELDEST;
        }

        private static boolean isSo(int step, int[] facts) {
            int what = step >> 4 & 15;
            int fact = what < facts.length ? facts[what] : 0;
            int sign = step >> 8 & 255;
            int number = step >> 16;
            if (sign == '<') {
                return fact < number;
            }
            return sign == '>' ? fact > number : fact == number;
        }
    }

    /** The tokens of a text one by one, and the first fault along it. */
    private static final class Tokens {
        static final int END = 0;
        static final int WORD = 1;
        static final int NUMBER = 2;
        static final int SIGN = 3;
        static final int BAD = 4;

        static final int NO_TOKEN = 1;
        static final int MISPLACED = 2;
        static final int WRONG_NAME = 3;
        static final int WRONG_NUMBER = 4;
        static final int WATER_AGAIN = 5;
        static final int ONE_MORE = 6;
        static final int TOO_DEEP = 7;

        private static final String SIGNS = ";<>=()";

        final byte[] text;
        int length = 0;
        int kind = END;
        int start = 0;
        int end = 0;
        /** The number that a NUMBER is, the byte that a SIGN is. */
        int value = 0;
        /** The number taken latest. */
        int taken = 0;
        int fault = 0;
        int faultPlace = NONE;

        Tokens(byte[] text) {
            this.text = text;
        }

        void open(int n) {
            length = Math.min(n, text.length);
            end = 0;
            fault = 0;
            faultPlace = NONE;
            next();
        }

        void next() {
            int at = end;
            while (at < length && (text[at] == ' ' || text[at] == '\n')) {
                at++;
            }
            start = at;
            value = 0;
            if (at >= length) {
                kind = END;
            } else if (text[at] >= 'a' && text[at] <= 'z') {
                kind = WORD;
                while (at < length && text[at] >= 'a' && text[at] <= 'z') {
                    at++;
                }
            } else if (text[at] >= '0' && text[at] <= '9') {
                while (at < length && text[at] >= '0' && text[at] <= '9') {
                    value = at - start < 4 ? value * 10 + text[at] - '0' : value;
                    at++;
                }
                kind = at - start > 4 ? BAD : NUMBER;
            } else {
                value = text[at];
                kind = value > 0 && SIGNS.indexOf((char) value) >= 0 ? SIGN : BAD;
                at++;
            }
            end = at;
        }

        /** Notes the fault of the token that stands here; where no token begins, that alone is its fault. */
        boolean refuseToken(int wrong) {
            fault = kind == BAD ? NO_TOKEN : wrong;
            faultPlace = start;
            return false;
        }

        boolean isWord(String word) {
            if (kind != WORD || end - start != word.length()) {
                return false;
            }
            for (int i = 0; i < word.length(); i++) {
                if (text[start + i] != word.charAt(i)) {
                    return false;
                }
            }
            return true;
        }

        boolean isSign(char sign) {
            return kind == SIGN && value == sign;
        }

        boolean takeWord(String word) {
            if (!isWord(word)) {
                return refuseToken(MISPLACED);
            }
            next();
            return true;
        }

        boolean takeSign(char sign) {
            if (!isSign(sign)) {
                return refuseToken(MISPLACED);
            }
            next();
            return true;
        }

        boolean takeNumber(int least, int most) {
            if (kind != NUMBER) {
                return refuseToken(MISPLACED);
            }
            if (value < least || value > most) {
                return refuseToken(WRONG_NUMBER);
            }
            taken = value;
            next();
            return true;
        }
    }

    /** Reads the text of a well. */
    private static final class WellReader {
        private static final String RESERVED = "water bottom sinks rain by person of dies rope yards age holy slips flood to if give or and not heirs reaches reach knots year eldest youngest poorest each well ";
        private static final int TEXT_ROPES = 6;
        private static final int TEXT_PIECES = 4;
        private static final int NAMES = PEOPLE + TEXT_ROPES;

        final Tokens tokens;
        private final World into;
        private boolean waterTold = false;
        private int ropesTold = 0;
        private int names = 0;
        private final int[] nameStart = new int[NAMES];
        private final int[] nameEnd = new int[NAMES];
        /** Which person bears a name, NONE for a rope's. */
        private final int[] nameOf = new int[NAMES];
        private int newStart = 0;
        private int newEnd = 0;

        WellReader(Tokens tokens, World into) {
            this.tokens = tokens;
            this.into = into;
        }

        boolean readWell(int n) {
            into.clear();
            waterTold = false;
            ropesTold = 0;
            names = 0;
            tokens.open(n);
            boolean good = true;
            for (int i = 0; i < TAPE_LIMIT && good && tokens.kind != Tokens.END; i++) {
                good = readPart();
            }
            return good;
        }

        private boolean readPart() {
            if (tokens.isWord("water")) {
                return waterTold ? tokens.refuseToken(Tokens.WATER_AGAIN) : readWater();
            }
            if (tokens.isWord("person")) {
                return into.people >= PEOPLE ? tokens.refuseToken(Tokens.ONE_MORE) : readPerson();
            }
            if (tokens.isWord("rope")) {
                return ropesTold >= TEXT_ROPES ? tokens.refuseToken(Tokens.ONE_MORE) : readRope();
            }
            if (tokens.isWord("flood")) {
                return into.floods >= FLOODS ? tokens.refuseToken(Tokens.ONE_MORE) : readFlood();
            }
            return tokens.refuseToken(Tokens.MISPLACED);
        }

        private boolean readWater() {
            waterTold = true;
            tokens.next();
            if (!tokens.takeNumber(0, DEEPEST)) {
                return false;
            }
            into.water = tokens.taken;
            if (!tokens.takeWord("bottom") || !tokens.takeNumber(0, DEEPEST)) {
                return false;
            }
            into.deepest = tokens.taken;
            if (tokens.isWord("sinks")) {
                tokens.next();
                if (!tokens.takeNumber(0, 99)) {
                    return false;
                }
                into.sinks = tokens.taken;
            }
            if (tokens.isWord("rain") && !readRain()) {
                return false;
            }
            return tokens.takeSign(';');
        }

        private boolean readRain() {
            tokens.next();
            if (!tokens.takeNumber(0, 16)) {
                return false;
            }
            into.rain = tokens.taken;
            if (!tokens.takeWord("by") || !tokens.takeNumber(0, 99)) {
                return false;
            }
            into.rainBy = tokens.taken;
            return true;
        }

        private boolean readPerson() {
            int number = into.people;
            tokens.next();
            if (!takeNewName()) {
                return false;
            }
            into.parent[number] = NONE;
            into.dies[number] = NONE;
            if (tokens.isWord("of")) {
                tokens.next();
                if (!takePerson()) {
                    return false;
                }
                into.parent[number] = tokens.taken;
            }
            if (tokens.isWord("dies")) {
                tokens.next();
                if (!tokens.takeNumber(1, LAST_YEAR)) {
                    return false;
                }
                into.dies[number] = tokens.taken;
            }
            keepName(number);
            into.people = number + 1;
            return tokens.takeSign(';');
        }

        private boolean readRope() {
            Rope rope = into.ropes[ropesTold];
            tokens.next();
            if (!takeNewName()) {
                return false;
            }
            keepName(NONE);
            if (!tokens.takeWord("of") || !takePerson()) {
                return false;
            }
            rope.owner = tokens.taken;
            if (!readPieces(rope)) {
                return false;
            }
            if (tokens.isWord("holy")) {
                tokens.next();
                rope.holy = true;
            }
            if (tokens.isWord("slips")) {
                tokens.next();
                if (!tokens.takeNumber(0, 15)) {
                    return false;
                }
                rope.slips = tokens.taken;
            }
            ropesTold++;
            return tokens.takeSign(';');
        }

        private boolean readPieces(Rope rope) {
            boolean more = true;
            for (int k = 0; k < TEXT_PIECES && more; k++) {
                if (!tokens.takeWord("yards") || !tokens.takeNumber(1, 200)) {
                    return false;
                }
                int yards = tokens.taken;
                if (!tokens.takeWord("age") || !tokens.takeNumber(0, 300)) {
                    return false;
                }
                rope.add(yards, tokens.taken);
                more = tokens.isWord("yards");
            }
            return !more || tokens.refuseToken(Tokens.ONE_MORE);
        }

        private boolean readFlood() {
            int number = into.floods;
            tokens.next();
            if (!tokens.takeNumber(0, LAST_YEAR)) {
                return false;
            }
            into.floodFrom[number] = tokens.taken;
            if (!tokens.takeWord("to") || !tokens.takeNumber(tokens.taken, LAST_YEAR)) {
                return false;
            }
            into.floodTo[number] = tokens.taken;
            if (!tokens.takeWord("by") || !tokens.takeNumber(1, DEEPEST)) {
                return false;
            }
            into.floodBy[number] = tokens.taken;
            into.floods = number + 1;
            return tokens.takeSign(';');
        }

        private boolean isName() {
            return tokens.kind == Tokens.WORD && tokens.end - tokens.start <= 8 && !isReserved();
        }

        private boolean isReserved() {
            int from = 0;
            for (int i = 0; i < RESERVED.length(); i++) {
                if (RESERVED.charAt(i) == ' ') {
                    if (isReservedAt(from, i)) {
                        return true;
                    }
                    from = i + 1;
                }
            }
            return false;
        }

        private boolean isReservedAt(int from, int to) {
            boolean same = to - from == tokens.end - tokens.start;
            for (int i = from; i < to && same; i++) {
                same = tokens.text[tokens.start + i - from] == RESERVED.charAt(i);
            }
            return same;
        }

        /** Which of the names kept stands here, NONE if none does. */
        private int findName() {
            for (int i = 0; i < names; i++) {
                boolean same = nameEnd[i] - nameStart[i] == tokens.end - tokens.start;
                for (int at = tokens.start; at < tokens.end && same; at++) {
                    same = tokens.text[at] == tokens.text[nameStart[i] + at - tokens.start];
                }
                if (same) {
                    return i;
                }
            }
            return NONE;
        }

        private boolean takeNewName() {
            if (!isName()) {
                return tokens.refuseToken(Tokens.MISPLACED);
            }
            if (findName() != NONE) {
                return tokens.refuseToken(Tokens.WRONG_NAME);
            }
            newStart = tokens.start;
            newEnd = tokens.end;
            tokens.next();
            return true;
        }

        private void keepName(int person) {
            if (names < NAMES) {
                nameStart[names] = newStart;
                nameEnd[names] = newEnd;
                nameOf[names] = person;
                names++;
            }
        }

        private boolean takePerson() {
            if (!isName()) {
                return tokens.refuseToken(Tokens.MISPLACED);
            }
            int found = findName();
            if (found == NONE || nameOf[found] == NONE) {
                return tokens.refuseToken(Tokens.WRONG_NAME);
            }
            tokens.taken = nameOf[found];
            tokens.next();
            return true;
        }
    }

    /** Reads the text of a law. */
    private static final class LawReader {
        private static final int RULES = 12;
        private static final int CASES = 24;
        private static final int LEVELS = 6;

        final Tokens tokens;
        int rules = 0;
        private int cases = 0;
        private int size = 0;
        private final int[] steps = new int[LAW_LIMIT];

        LawReader(Tokens tokens) {
            this.tokens = tokens;
        }

        boolean readLaw(int n) {
            rules = 0;
            cases = 0;
            size = 0;
            tokens.open(n);
            boolean good = true;
            for (int i = 0; i < LAW_LIMIT && good && tokens.kind != Tokens.END; i++) {
                good = readRule();
            }
            return good;
        }

        /** The law that was read latest. */
        Law made() {
            return new Law(Arrays.copyOf(steps, size), rules);
        }

        private boolean readRule() {
            if (tokens.isWord("if") && rules >= RULES) {
                return tokens.refuseToken(Tokens.ONE_MORE);
            }
            if (!tokens.takeWord("if") || !readEither(0) || !tokens.takeWord("give")) {
                return false;
            }
            int whom = whomHere();
            if (whom == NONE) {
                return tokens.refuseToken(Tokens.MISPLACED);
            }
            keepStep(Law.step(Law.GIVE, whom, 0, 0));
            rules++;
            tokens.next();
            return tokens.takeSign(';');
        }

        private boolean readEither(int level) {
            boolean good = readOne(level);
            boolean orWaits = false;
            for (int i = 0; i < LAW_LIMIT && good; i++) {
                if (tokens.isWord("and")) {
                    tokens.next();
                    good = readOne(level);
                    keepStep(Law.step(Law.AND, 0, 0, 0));
                } else if (tokens.isWord("or")) {
                    // What is joined by and binds first: an or waits until the next one, or the end.
                    if (orWaits) {
                        keepStep(Law.step(Law.OR, 0, 0, 0));
                    }
                    orWaits = true;
                    tokens.next();
                    good = readOne(level);
                } else {
                    break;
                }
            }
            if (orWaits) {
                keepStep(Law.step(Law.OR, 0, 0, 0));
            }
            return good;
        }

        private boolean readOne(int level) {
            int what = factHere();
            boolean isNot = tokens.isWord("not");
            if (what == NONE && !isNot && !tokens.isSign('(')) {
                return tokens.refuseToken(Tokens.MISPLACED);
            }
            if (what != NONE && cases >= CASES) {
                return tokens.refuseToken(Tokens.ONE_MORE);
            }
            if (level >= LEVELS) {
                return tokens.refuseToken(Tokens.TOO_DEEP);
            }
            tokens.next();
            if (what != NONE) {
                return readCase(what);
            }
            if (!isNot) {
                return readEither(level + 1) && tokens.takeSign(')');
            }
            boolean good = readOne(level + 1);
            keepStep(Law.step(Law.NOT, 0, 0, 0));
            return good;
        }

        private boolean readCase(int what) {
            cases++;
            if (what == HOLY || what == REACHES) {
                keepStep(Law.step(Law.ASK, what, '=', 1));
                return true;
            }
            if (!tokens.isSign('<') && !tokens.isSign('>') && !tokens.isSign('=')) {
                return tokens.refuseToken(Tokens.MISPLACED);
            }
            int sign = tokens.value;
            tokens.next();
            if (!tokens.takeNumber(0, 999)) {
                return false;
            }
            keepStep(Law.step(Law.ASK, what, sign, tokens.taken));
            return true;
        }

        private void keepStep(int step) {
            if (size < LAW_LIMIT) {
                steps[size] = step;
                size++;
            }
        }

        private int factHere() {
            if (tokens.isWord("holy")) {
                return HOLY;
            }
            if (tokens.isWord("reaches")) {
                return REACHES;
            }
            if (tokens.isWord("yards")) {
                return OF_YARDS;
            }
            if (tokens.isWord("reach")) {
                return OF_REACH;
            }
            if (tokens.isWord("knots")) {
                return OF_KNOTS;
            }
            if (tokens.isWord("age")) {
                return OF_AGE;
            }
            if (tokens.isWord("heirs")) {
                return OF_HEIRS;
            }
            return tokens.isWord("year") ? OF_YEAR : NONE;
        }

        private int whomHere() {
            if (tokens.isWord("eldest")) {
                return ELDEST;
            }
            if (tokens.isWord("youngest")) {
                return YOUNGEST;
            }
            if (tokens.isWord("poorest")) {
                return POOREST;
            }
            if (tokens.isWord("each")) {
                return EACH;
            }
            return tokens.isWord("well") ? THE_WELL : NONE;
        }
    }

    /**
     * The fewest knots by which so many drink. A rope that reaches alone is best left alone: another knotted to it
     * is a knot for nothing. So only the others are tried as sets, and each adds its reach less one to its set.
     */
    private static final class Planner {
        private static final int GROUP = 1024;

        private boolean dry = true;
        private int alone = 0;
        private int count = 0;
        private int need = 0;
        private final int[] gain = new int[ROPES];
        /** For each set of ropes: sets that come full times GROUP, and what lies in the one begun: the most of that. */
        private int[] full = new int[1];
        /** How many ropes so many sets need at least, NONE if they can't be. */
        private final int[] fewest = new int[ROPES + 1];

        void weigh(World world) {
            int deep = world.depthNow();
            dry = deep > world.deepest;
            need = deep - 1;
            alone = 0;
            count = 0;
            for (int r = 0; r < ROPES; r++) {
                Rope rope = world.ropes[r];
                if (rope.isThere() && rope.reach() >= deep) {
                    alone++;
                } else if (rope.isThere() && !rope.holy && rope.reach() > 1) {
                    gain[count] = rope.reach() - 1;
                    count++;
                }
            }
            Arrays.fill(fewest, NONE);
            fewest[0] = 0;
            if (!dry && world.countAlive() > alone) {
                fillSets();
            }
        }

        private void fillSets() {
            int sets = 1 << count;
            if (full.length < sets) {
                full = new int[sets];
            }
            full[0] = 0;
            for (int set = 1; set < sets; set++) {
                int most = 0;
                for (int i = 0; i < count; i++) {
                    if ((set >> i & 1) == 1) {
                        most = Math.max(most, with(full[set & ~(1 << i)], gain[i]));
                    }
                }
                full[set] = most;
                int groups = Math.min(most / GROUP, ROPES);
                int size = Integer.bitCount(set);
                if (fewest[groups] == NONE || size < fewest[groups]) {
                    fewest[groups] = size;
                }
            }
        }

        private int with(int before, int more) {
            int begun = before % GROUP + more;
            return begun >= need ? before - before % GROUP + GROUP : before + more;
        }

        /** NONE if so many can't drink. */
        int knotsFor(int drinkers) {
            if (dry) {
                return NONE;
            }
            int groups = Math.max(0, drinkers - alone);
            if (groups > ROPES || fewest[groups] == NONE) {
                return NONE;
            }
            return fewest[groups] - groups;
        }
    }
}
