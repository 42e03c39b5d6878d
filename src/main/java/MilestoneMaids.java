/**
 * Milestone maidens: girls with lamps along a pilgrim way, and pilgrims whose marks they change.
 * The words in capitals in ../shared/DOC.md ("Terms") are the words used here.
 */
public final class MilestoneMaids {
    public static final int NONE = -1, BAD = -2, STATE = -3, FULL = -4;
    public static final long NO = Long.MIN_VALUE;

    private static final int WITHOUT = -5, FAULT = -10, NOTHING = -11, CAST = -12, PLACE = -13, SIZE = -14;

    private static final int MAID = 0, SETTER = 1, TURNER = 2, WIPER = 3, FOND = 4, DARK = 5, TOLD = 6;
    private static final int LOOKS = 0, SAYS = 1, TELLS = 2;
    private static final int DAY_GOES = 0, LAMP_GOES_OUT = 1, LAMP_IS_LIT = 2, PILGRIM_TURNS = 3;
    private static final int BYTES = 0, SHORTS = 1, INTS = 2, BOOLEANS = 4, NO_SORT = -1;

    private static final int MAIDS_LIMIT = 6, PILGRIMS_LIMIT = 5, WAYS_LIMIT = 6, TAPES = 6, TAPE_LIMIT = 60;
    private static final int SEEN_LIMIT = 5, PLAN_LIMIT = 10, BOOK_LIMIT = 8;
    private static final int TEXT_LIMIT = 100, CLAUSES_LIMIT = 10, NESTING_LIMIT = 4, MANY_WITHOUT = 9;
    private static final int ALL_MARKS = 256, NUMBERS = 10, PARTS = 4;
    private static final int LAST_DAY = 9999, DAYS_LIMIT = 60, DAYS_LOOKED_AHEAD = 20;
    private static final int TRACE_LIMIT = 20;

    /** The KIND above each KIND; MAID has none. */
    private static final int[] KIND_ABOVE = {-1, MAID, MAID, MAID, SETTER, TURNER, WIPER};
    /** The number of the body of each KIND (by threes) for looks, says and tells; 0 where it has none. */
    private static final int[] BODIES = {
        10, 11, 12,
        0, 20, 0,
        30, 0, 0,
        0, 0, 40,
        50, 51, 0,
        0, 0, 60,
        71, 70, 0};

    private final Stage now = new Stage();
    private final Stage saved = new Stage();
    /** What would be: questions about days to come are tried out here, so that asking changes nothing. */
    private final Stage trial = new Stage();
    private boolean hasImage = false;
    private final WayReader reader = new WayReader();
    private int ways = 0;
    private final OrderSearch orders = new OrderSearch();
    private final Actor actor = new Actor();
    private final Tape[] tapes = new Tape[TAPES];

    public MilestoneMaids() {
        for (int i = 0; i < TAPES; i++) {
            tapes[i] = new Tape();
        }
    }

    // ---- maids, pilgrims, ways

    public int maid(int kind, int v) {
        if (!isKind(kind)) return NONE;
        if (!isNumber(v)) return BAD;
        if (now.maids >= MAIDS_LIMIT) return FULL;
        return now.addMaid(kind, v);
    }

    public int pilgrim(int marks) {
        if (!isMarks(marks)) return BAD;
        if (now.pilgrims >= PILGRIMS_LIMIT) return FULL;
        return now.addPilgrim(marks);
    }

    public int of(int maid, int what) {
        if (!isMaid(maid)) return NONE;
        switch (what) {
            case 0: return now.kinds[maid];
            case 1: return now.numbers[maid];
            case 2: return now.isOut(maid) ? 1 : 0;
            case 3: return now.changesBy(maid);
            default: return NONE;
        }
    }

    public int at(int pilgrim, int what) {
        if (!isPilgrim(pilgrim)) return NONE;
        switch (what) {
            case 0: return now.marks[pilgrim];
            case 1: return now.places[pilgrim];
            case 2: return now.isBack(pilgrim) ? 1 : 0;
            case 3: return comes(pilgrim);
            default: return NONE;
        }
    }

    public int passes(int maid, int what, int marks) {
        if (!isMaid(maid) || !isFirstOrSecond(what)) return NONE;
        if (!isMarks(marks)) return BAD;
        int v = now.numbers[maid];
        return what == 0 ? now.said(maid, v, marks, now.day) : now.passedOn(maid, v, marks, now.day);
    }

    public int mark(int pilgrim, int marks) {
        if (!isPilgrim(pilgrim)) return NONE;
        if (!isMarks(marks)) return BAD;
        int old = now.marks[pilgrim];
        now.marks[pilgrim] = marks;
        return old;
    }

    public int start(int pilgrim) {
        if (!isPilgrim(pilgrim)) return NONE;
        int old = now.places[pilgrim];
        now.places[pilgrim] = 0;
        now.turn(pilgrim);
        return old;
    }

    public int lamp(int maid, boolean isOut) {
        if (!isMaid(maid)) return NONE;
        int old = now.isOut(maid) ? 1 : 0;
        now.putOut(maid, isOut);
        return old;
    }

    public int row(int maid, int part, int n) {
        if (!isMaid(maid) || part < 0 || part >= PARTS) return NONE;
        if (!isNumber(n)) return BAD;
        if (now.kinds[maid] != TOLD) return STATE;
        int old = now.rows[maid * PARTS + part];
        now.rows[maid * PARTS + part] = n;
        return old;
    }

    public int feed(int sign) {
        if (sign < 0 || sign > 127) return BAD;
        if (reader.length >= TEXT_LIMIT) return FULL;
        return reader.append(sign);
    }

    public int way() {
        if (ways >= WAYS_LIMIT) return FULL;
        boolean isWay = reader.readAll();
        reader.length = 0;
        if (!isWay) return FAULT - reader.place;
        now.way = reader.newWay();
        ways++;
        return ways - 1;
    }

    public int told(int what) {
        switch (what) {
            case 0: return now.day;
            case 1: return now.many();
            case 2: return now.out;
            case 3: return now.howManyIn();
            case 4: return now.howManyBack();
            case 5: return now.most();
            default: return NONE;
        }
    }

    // ---- days

    public int pass(int n) {
        if (n < 0 || n > DAYS_LIMIT) return BAD;
        if (now.day + n > LAST_DAY) return STATE;
        now.goDays(n);
        return now.day;
    }

    public int on(int n, int what) {
        boolean isOfMarks = what >= 10 && isPilgrim(what - 10);
        boolean isOfPlace = what >= 20 && isPilgrim(what - 20);
        if (what != 0 && !isOfMarks && !isOfPlace) return NONE;
        if (n < 0 || n > DAYS_LIMIT) return BAD;
        trial.copy(now);
        trial.goDays(n);
        if (isOfMarks) return trial.marks[what - 10];
        if (isOfPlace) return trial.places[what - 20];
        return trial.howManyBack();
    }

    // ---- through all lamps

    public int through(int marks) {
        if (!isMarks(marks)) return BAD;
        return now.throughAll(marks, 0);
    }

    public int before(int marks, int what) {
        if (!isFirstOrSecond(what)) return NONE;
        if (!isMarks(marks)) return BAD;
        int n = 0;
        int least = WITHOUT;
        for (int from = ALL_MARKS - 1; from >= 0; from--) {
            if (now.throughAll(from, 0) == marks) {
                n++;
                least = from;
            }
        }
        return what == 0 ? n : least;
    }

    public int order(int a, int b, int k) {
        if (k < -1 || k >= MAIDS_LIMIT) return NONE;
        if (!isMarks(a) || !isMarks(b)) return BAD;
        if (k >= now.maids) return WITHOUT;
        orders.search(now, a, b);
        return k < 0 ? orders.unlike : orders.best[k];
    }

    public int doused(int a, int b) {
        if (!isMarks(a) || !isMarks(b)) return BAD;
        return now.fewestDoused(a, b);
    }

    // ---- seen, odds

    public int see(int a, int b) {
        if (a == -1) return now.seen.empty();
        if (!isMarks(a) || !isMarks(b)) return BAD;
        return now.seen.isFull() ? FULL : now.seen.append(a, b);
    }

    public int can(int maid, int what) {
        if (!isMaid(maid) || !isFirstOrSecond(what)) return NONE;
        int n = 0;
        int least = WITHOUT;
        for (int v = NUMBERS - 1; v >= 0; v--) {
            if (now.passesAsSeen(maid, v, now.day)) {
                n++;
                least = v;
            }
        }
        return what == 0 ? n : least;
    }

    public int who() {
        int bits = 0;
        for (int maid = 0; maid < now.maids; maid++) {
            if (now.passesAsSeen(maid, now.numbers[maid], now.day)) bits |= 1 << maid;
        }
        return bits;
    }

    public int when(int maid, int what) {
        if (!isMaid(maid) || !isFirstOrSecond(what)) return NONE;
        int n = 0;
        int first = WITHOUT;
        for (int ahead = DAYS_LOOKED_AHEAD - 1; ahead >= 0; ahead--) {
            if (now.passesAsSeen(maid, now.numbers[maid], now.day + ahead)) {
                n++;
                first = ahead;
            }
        }
        return what == 0 ? n : first;
    }

    public long odds(int a, int b, int part) {
        if (!isMarks(a) || !isMarks(b) || !isFirstOrSecond(part) || now.maids == 0) return NO;
        int n = 0;
        for (int maid = 0; maid < now.maids; maid++) {
            if (now.throughAll(a, 1 << maid) == b) n++;
        }
        return lowestTerms(n, now.maids, part);
    }

    public long mean(int part) {
        if (!isFirstOrSecond(part) || now.pilgrims == 0) return NO;
        return lowestTerms(now.marksTogether(), now.pilgrims, part);
    }

    // ---- plans, books

    public int plan(int what, int n) {
        if (what == -1) return now.plan.empty();
        if (!isPlanned(what, n)) return NONE;
        return now.plan.isFull() ? FULL : now.plan.append(what, n);
    }

    public int ends(int what) {
        if (!isFirstOrSecond(what)) return NONE;
        trial.copy(now);
        trial.followPlan();
        return what == 0 ? trial.howManyIn() : trial.howManyBack();
    }

    public int book(int pilgrim, int marks) {
        if (pilgrim == -1) return now.book.empty();
        if (!isPilgrim(pilgrim)) return NONE;
        if (!isMarks(marks)) return BAD;
        return now.book.isFull() ? FULL : now.book.append(pilgrim, marks);
    }

    public int looked() {
        return now.firstOtherwiseInBook();
    }

    // ---- judging, the image, acts, tapes

    public int judge(int tape, int i) {
        if (!isTape(tape)) return NONE;
        Tape row = tapes[tape];
        if (row.sort != NO_SORT && row.sort != SHORTS) return CAST;
        return judged(row, i);
    }

    public int image() {
        saved.copy(now);
        hasImage = true;
        return now.maids;
    }

    public int undo() {
        if (!hasImage) return STATE;
        now.copy(saved);
        return now.maids;
    }

    public int act(int maid, int act, int x) {
        actor.forget();
        if (!isMaid(maid) || act < LOOKS || act > TELLS) return 0;
        return actor.perform(maid, now.kinds[maid], now.numbers[maid], act, x);
    }

    public int trace(int i) {
        return i < 0 || i >= actor.kept() ? NONE : actor.bodies[i];
    }

    public int taken(int maid, int k) {
        if (!isKind(k)) return BAD;
        if (!isMaid(maid)) return NOTHING;
        return isUnder(now.kinds[maid], k) ? now.kinds[maid] : CAST;
    }

    public int count(int what) {
        switch (what) {
            case 0: return now.maids;
            case 1: return now.pilgrims;
            case 2: return ways;
            case 3: return now.seen.length;
            case 4: return now.plan.length;
            case 5: return now.book.length;
            case 6: return reader.length;
            case 7: return actor.ran;
            default: return BAD;
        }
    }

    public int tape(int tape, int sort, int n) {
        if (!isTape(tape)) return NONE;
        if (sort < NO_SORT || sort > BOOLEANS) return BAD;
        if (sort == NO_SORT) {
            tapes[tape].become(NO_SORT, 0);
            return 1;
        }
        if (n > TAPE_LIMIT) return BAD;
        if (n < 0) return SIZE;
        tapes[tape].become(sort, n);
        return 1;
    }

    public int item(int tape, int i, long v) {
        if (!isTape(tape)) return NONE;
        if (tapes[tape].sort == NO_SORT) return NOTHING;
        if (!tapes[tape].hasItem(i)) return PLACE;
        tapes[tape].put(i, v);
        return 1;
    }

    public long read(int tape, int i) {
        if (!isTape(tape) || !tapes[tape].hasItem(i)) return NO;
        return tapes[tape].items[i];
    }

    public int shift(int tape, int i, int other, int j, int n) {
        if (!isTape(tape) || !isTape(other)) return NONE;
        Tape from = tapes[tape];
        Tape to = tapes[other];
        if (from.sort == NO_SORT || to.sort == NO_SORT) return NOTHING;
        if (from.sort != to.sort) return CAST;
        if (!from.hasPart(i, n) || !to.hasPart(j, n)) return PLACE;
        System.arraycopy(from.items, i, to.items, j, n);
        return n;
    }

    // ---- what the calls above share

    private static boolean isKind(int kind) {
        return kind >= MAID && kind <= TOLD;
    }

    private static boolean isNumber(int n) {
        return n >= 0 && n < NUMBERS;
    }

    private static boolean isMarks(int marks) {
        return marks >= 0 && marks < ALL_MARKS;
    }

    private static boolean isFirstOrSecond(int what) {
        return what == 0 || what == 1;
    }

    private static boolean isTape(int tape) {
        return tape >= 0 && tape < TAPES;
    }

    private boolean isMaid(int maid) {
        return maid >= 0 && maid < now.maids;
    }

    private boolean isPilgrim(int pilgrim) {
        return pilgrim >= 0 && pilgrim < now.pilgrims;
    }

    private boolean isPlanned(int what, int n) {
        switch (what) {
            case DAY_GOES: return true;
            case LAMP_GOES_OUT: return isMaid(n);
            case LAMP_IS_LIT: return isMaid(n);
            case PILGRIM_TURNS: return isPilgrim(n);
            default: return false;
        }
    }

    private static boolean isUnder(int kind, int top) {
        int k = kind;
        for (int step = 0; step < KIND_ABOVE.length && k >= 0; step++) {
            if (k == top) return true;
            k = KIND_ABOVE[k];
        }
        return false;
    }

    private int comes(int pilgrim) {
        trial.copy(now);
        // Each day a pilgrim turns back or comes one place on, so as many days as there are maids do.
        trial.goDays(now.maids);
        return trial.isBack(pilgrim) ? WITHOUT : trial.marks[pilgrim];
    }

    private int judged(Tape row, int i) {
        for (int p = 0; p < now.pilgrims; p++) {
            // The place is compared by what is left of the row, since i + p could wrap.
            if (i < 0 || i >= row.length - p) return 100 + p;
            if (row.items[i + p] != now.marks[p]) return p;
        }
        return WITHOUT;
    }

    private static long lowestTerms(int above, int below, int part) {
        int a = above;
        int b = below;
        for (int step = 0; step < 100 && b != 0; step++) {
            int rest = a % b;
            a = b;
            b = rest;
        }
        if (a == 0) return NO;
        return part == 0 ? above / a : below / a;
    }

    /** All that THE IMAGE keeps. Which LAMPS are OUT and which PILGRIMS are BACK are held as bits. */
    private static final class Stage {
        int day = 0;
        int maids = 0;
        final int[] kinds = new int[MAIDS_LIMIT];
        final int[] numbers = new int[MAIDS_LIMIT];
        int out = 0;
        final int[] rows = new int[MAIDS_LIMIT * PARTS];
        int pilgrims = 0;
        final int[] marks = new int[PILGRIMS_LIMIT];
        final int[] places = new int[PILGRIMS_LIMIT];
        int back = 0;
        final Pairs seen = new Pairs(SEEN_LIMIT);
        final Pairs plan = new Pairs(PLAN_LIMIT);
        final Pairs book = new Pairs(BOOK_LIMIT);
        /** The WAY that holds; null without one. */
        Way way = null;

        void copy(Stage other) {
            day = other.day;
            maids = other.maids;
            System.arraycopy(other.kinds, 0, kinds, 0, MAIDS_LIMIT);
            System.arraycopy(other.numbers, 0, numbers, 0, MAIDS_LIMIT);
            out = other.out;
            System.arraycopy(other.rows, 0, rows, 0, MAIDS_LIMIT * PARTS);
            pilgrims = other.pilgrims;
            System.arraycopy(other.marks, 0, marks, 0, PILGRIMS_LIMIT);
            System.arraycopy(other.places, 0, places, 0, PILGRIMS_LIMIT);
            back = other.back;
            seen.copy(other.seen);
            plan.copy(other.plan);
            book.copy(other.book);
            way = other.way;
        }

        int addMaid(int kind, int v) {
            kinds[maids] = kind;
            numbers[maids] = v;
            maids++;
            return maids - 1;
        }

        int addPilgrim(int newMarks) {
            marks[pilgrims] = newMarks;
            pilgrims++;
            return pilgrims - 1;
        }

        boolean isOut(int maid) {
            return (out & 1 << maid) != 0;
        }

        void putOut(int maid, boolean isOut) {
            out = isOut ? out | 1 << maid : out & ~(1 << maid);
        }

        boolean isBack(int pilgrim) {
            return (back & 1 << pilgrim) != 0;
        }

        /** A PILGRIM is not BACK any more. */
        void turn(int pilgrim) {
            back &= ~(1 << pilgrim);
        }

        int many() {
            return way == null ? MANY_WITHOUT : way.many;
        }

        int said(int maid, int v, int to, int onDay) {
            int mark = 1 << v % 8;
            switch (kinds[maid]) {
                case MAID: return to ^ mark;
                case SETTER: return to | mark;
                case TURNER: return turned(to, 1);
                case WIPER: return wiped(to);
                case FOND: return to | mark | turned(mark, 1);
                case DARK: return turned(to, v % 8);
                default: return wiped(to) ^ rows[maid * PARTS + onDay % PARTS];
            }
        }

        private static int turned(int to, int places) {
            return (to << places | to >> 8 - places) & ALL_MARKS - 1;
        }

        private static int wiped(int to) {
            return to & to - 1;
        }

        int passedOn(int maid, int v, int to, int onDay) {
            if (isOut(maid)) return to;
            if (way != null && !way.isHeeded(maid, kinds[maid], v, to, onDay)) return to;
            return said(maid, v, to, onDay);
        }

        int passedOnToday(int maid, int to) {
            return passedOn(maid, numbers[maid], to, day);
        }

        /** THROUGH, were the LAMPS of the MAIDS in the bits OUT, too. */
        int throughAll(int from, int dousedBits) {
            int to = from;
            for (int maid = 0; maid < maids; maid++) {
                if ((dousedBits & 1 << maid) == 0) to = passedOnToday(maid, to);
            }
            return to;
        }

        int changesBy(int maid) {
            int n = 0;
            for (int to = 0; to < ALL_MARKS; to++) {
                if (passedOnToday(maid, to) != to) n++;
            }
            return n;
        }

        int most() {
            int best = WITHOUT;
            int changed = -1;
            for (int maid = 0; maid < maids; maid++) {
                int n = changesBy(maid);
                if (n > changed) {
                    best = maid;
                    changed = n;
                }
            }
            return best;
        }

        int fewestDoused(int a, int b) {
            int best = WITHOUT;
            int fewest = MAIDS_LIMIT + 1;
            for (int bits = 0; bits < 1 << maids; bits++) {
                if (Integer.bitCount(bits) < fewest && throughAll(a, bits) == b) {
                    best = bits;
                    fewest = Integer.bitCount(bits);
                }
            }
            return best;
        }

        boolean passesAsSeen(int maid, int v, int onDay) {
            for (int i = 0; i < seen.length; i++) {
                if (passedOn(maid, v, seen.firsts[i], onDay) != seen.seconds[i]) return false;
            }
            return true;
        }

        void goDays(int n) {
            for (int i = 0; i < n; i++) {
                for (int p = 0; p < pilgrims; p++) {
                    if (!isBack(p) && places[p] < maids) meet(p);
                }
                day++;
            }
        }

        private void meet(int p) {
            int maid = places[p];
            marks[p] = passedOn(maid, numbers[maid], marks[p], day);
            if (Integer.bitCount(marks[p]) >= many()) {
                back |= 1 << p;
            } else {
                places[p]++;
            }
        }

        void followPlan() {
            for (int i = 0; i < plan.length; i++) {
                switch (plan.firsts[i]) {
                    case DAY_GOES: goDays(1); break;
                    case LAMP_GOES_OUT: putOut(plan.seconds[i], true); break;
                    case LAMP_IS_LIT: putOut(plan.seconds[i], false); break;
                    default: turn(plan.seconds[i]); break;
                }
            }
        }

        int firstOtherwiseInBook() {
            for (int i = 0; i < book.length; i++) {
                if (marks[book.firsts[i]] != book.seconds[i]) return i;
            }
            return WITHOUT;
        }

        int howManyIn() {
            int n = 0;
            for (int p = 0; p < pilgrims; p++) {
                if (places[p] >= maids) n++;
            }
            return n;
        }

        int howManyBack() {
            return Integer.bitCount(back);
        }

        int marksTogether() {
            int n = 0;
            for (int p = 0; p < pilgrims; p++) {
                n += Integer.bitCount(marks[p]);
            }
            return n;
        }
    }

    /** Rows of two numbers each, told by hand, up to a limit. */
    private static final class Pairs {
        int length = 0;
        final int[] firsts;
        final int[] seconds;

        Pairs(int limit) {
            firsts = new int[limit];
            seconds = new int[limit];
        }

        boolean isFull() {
            return length >= firsts.length;
        }

        int append(int first, int second) {
            firsts[length] = first;
            seconds[length] = second;
            length++;
            return length;
        }

        int empty() {
            length = 0;
            return 0;
        }

        /** The other one is of the same limit. */
        void copy(Pairs other) {
            length = other.length;
            System.arraycopy(other.firsts, 0, firsts, 0, other.length);
            System.arraycopy(other.seconds, 0, seconds, 0, other.length);
        }
    }

    /**
     * The CLAUSES of a WAY as a row of steps for a stack of bits: first the tests of an E and what
     * joins them (each joint behind both its sides), then heed or deaf, which takes what E came to.
     */
    private static final class Way {
        /** The tests come first: their letters l, k, v, m, f, d are 0 .. 5. */
        static final int AND = 6, OR = 7, NOT = 8, HEED = 9, DEAF = 10;
        static final int LESS = 0, EQUAL = 1;

        final int many;
        private final int[] steps;

        Way(int many, int[] steps) {
            this.many = many;
            this.steps = steps;
        }

        /** A step as one number: what it does, by which relation, with which number (0 .. 99). */
        static int step(int what, int relation, int n) {
            return (what * 3 + relation) * 100 + n;
        }

        boolean isHeeded(int number, int kind, int v, int to, int day) {
            int sum = 1;
            int stack = 0;
            for (int i = 0; i < steps.length; i++) {
                int n = steps[i] % 100;
                int what = steps[i] / 300;
                int top = stack & 1;
                int rest = stack >> 1;
                switch (what) {
                    case AND: stack = rest & (top | ~1); break;
                    case OR: stack = rest | top; break;
                    case NOT: stack ^= 1; break;
                    case HEED: sum += top * n; stack = rest; break;
                    case DEAF: sum -= top * n; stack = rest; break;
                    default:
                        int fact = factOf(what, number, kind, v, to, day);
                        stack = stack << 1 | (holds(steps[i] / 100 % 3, fact, n) ? 1 : 0);
                }
            }
            return sum > 0;
        }

        private static int factOf(int letter, int number, int kind, int v, int to, int day) {
            switch (letter) {
                case 0: return number;
                case 1: return kind;
                case 2: return v;
                case 3: return Integer.bitCount(to);
                case 4: return to % 10;
                default: return day % 10;
            }
        }

        private static boolean holds(int relation, int fact, int n) {
            if (relation == LESS) return fact < n;
            return relation == EQUAL ? fact == n : fact > n;
        }
    }

    /**
     * THE TEXT, and how it is read: each part stops at the first sign with which nothing begins so,
     * and place stays there, so that it is THE FAULT.
     */
    private static final class WayReader {
        int length = 0;
        int place = 0;
        private final int[] signs = new int[TEXT_LIMIT];
        private boolean isWrong = false;
        private int many = MANY_WITHOUT;
        /** No more than the signs: each step is read from one sign or more of its own. */
        private final int[] steps = new int[TEXT_LIMIT];
        private int stepCount = 0;

        int append(int sign) {
            signs[length] = sign;
            length++;
            return length;
        }

        Way newWay() {
            int[] own = new int[stepCount];
            System.arraycopy(steps, 0, own, 0, stepCount);
            return new Way(many, own);
        }

        /** Whether THE TEXT is a WAY; if not, place is THE FAULT. */
        boolean readAll() {
            place = 0;
            isWrong = false;
            many = MANY_WITHOUT;
            stepCount = 0;
            readClause();
            for (int n = 1; n < CLAUSES_LIMIT && !isWrong && place < length; n++) {
                readSign(';');
                readClause();
            }
            return !isWrong && place == length;
        }

        private void readClause() {
            int first = next();
            readWord(first == 'h' ? "heed" : first == 'd' ? "deaf" : "many");
            readSign(' ');
            int n = readNumber();
            if (first == 'h' || first == 'd') {
                readSign(' ');
                readEither(0);
                addStep(first == 'h' ? Way.HEED : Way.DEAF, 0, n);
            } else {
                many = n;
            }
        }

        /** E. */
        private void readEither(int depth) {
            readBoth(depth);
            for (int n = 0; n < TEXT_LIMIT && next() == '|'; n++) {
                readSign('|');
                readBoth(depth);
                addStep(Way.OR, 0, 0);
            }
        }

        /** T. */
        private void readBoth(int depth) {
            readPart(depth);
            for (int n = 0; n < TEXT_LIMIT && next() == '&'; n++) {
                readSign('&');
                readPart(depth);
                addStep(Way.AND, 0, 0);
            }
        }

        /** F, within as many ( and ! as depth. */
        private void readPart(int depth) {
            int sign = next();
            if (sign != '!' && sign != '(') {
                readTest();
            } else if (depth >= NESTING_LIMIT) {
                isWrong = true;
            } else if (sign == '!') {
                readNot(depth + 1);
            } else {
                readBracket(depth + 1);
            }
        }

        private void readNot(int depth) {
            readSign('!');
            readPart(depth);
            addStep(Way.NOT, 0, 0);
        }

        private void readBracket(int depth) {
            readSign('(');
            readEither(depth);
            readSign(')');
        }

        private void readTest() {
            int letter = readOneOf("lkvmfd");
            int relation = readOneOf("<=>");
            int n = readNumber();
            addStep(letter, relation, n);
        }

        private int readNumber() {
            int n = readOneOf("0123456789");
            int digit = next() - '0';
            if (digit < 0 || digit > 9) return n;
            place++;
            return n * 10 + digit;
        }

        private void readWord(String word) {
            for (int i = 0; i < word.length(); i++) {
                readSign(word.charAt(i));
            }
        }

        /** Which of the signs stands here; it is read. */
        private int readOneOf(String allowed) {
            int sign = next();
            for (int i = 0; i < allowed.length(); i++) {
                if (allowed.charAt(i) == sign) {
                    place++;
                    return i;
                }
            }
            isWrong = true;
            return 0;
        }

        private void readSign(int sign) {
            if (next() == sign) {
                place++;
            } else {
                isWrong = true;
            }
        }

        /** The sign that stands here; -1 at the end, and behind a fault, where nothing is read any more. */
        private int next() {
            return isWrong || place >= length ? -1 : signs[place];
        }

        private void addStep(int what, int relation, int n) {
            if (isWrong || stepCount >= TEXT_LIMIT) return;
            steps[stepCount] = Way.step(what, relation, n);
            stepCount++;
        }
    }

    /** The search for the ORDER by which marks become nearest to others. */
    private static final class OrderSearch {
        int unlike = 0;
        final int[] best = new int[MAIDS_LIMIT];
        private final int[] tried = new int[MAIDS_LIMIT];
        private int wanted = 0;

        void search(Stage stage, int a, int b) {
            // More than any marks can be unlike, so that the first order that is tried is taken.
            unlike = ALL_MARKS;
            wanted = b;
            goOn(stage, 0, 0, a);
        }

        /** The orders are tried as rows of numbers in their order, so the first of several stays. */
        private void goOn(Stage stage, int depth, int used, int to) {
            if (depth >= stage.maids) {
                take(Integer.bitCount(to ^ wanted));
                return;
            }
            for (int maid = 0; maid < stage.maids; maid++) {
                if ((used & 1 << maid) == 0) goOnBy(maid, stage, depth, used, to);
            }
        }

        private void goOnBy(int maid, Stage stage, int depth, int used, int to) {
            tried[depth] = maid;
            goOn(stage, depth + 1, used | 1 << maid, stage.passedOnToday(maid, to));
        }

        private void take(int n) {
            if (n >= unlike) return;
            unlike = n;
            System.arraycopy(tried, 0, best, 0, MAIDS_LIMIT);
        }
    }

    /** The ACTS of one MAID at a time, and THE TRACE. */
    private static final class Actor {
        /** Far above what any KIND's bodies need (TOLD's tells: eight). */
        private static final int DEPTH_LIMIT = 20;

        final int[] bodies = new int[TRACE_LIMIT];
        int ran = 0;
        private int number = 0;
        private int kind = 0;
        private int v = 0;

        void forget() {
            ran = 0;
        }

        int kept() {
            return Math.min(ran, TRACE_LIMIT);
        }

        int perform(int maidNumber, int maidKind, int maidV, int act, int x) {
            number = maidNumber;
            kind = maidKind;
            v = maidV;
            return run(kind, act, x, 0);
        }

        /** The body for an act of a KIND, or of the next KIND above that has one. */
        private int run(int from, int act, int x, int depth) {
            int k = from;
            for (int step = 0; step < KIND_ABOVE.length && k > MAID && BODIES[k * 3 + act] == 0; step++) {
                k = KIND_ABOVE[k];
            }
            if (k < MAID || depth >= DEPTH_LIMIT) return 0;
            int body = BODIES[k * 3 + act];
            note(body);
            return runBody(body, x, depth + 1);
        }

        private void note(int body) {
            if (ran < TRACE_LIMIT) bodies[ran] = body;
            ran++;
        }

        private int runBody(int body, int x, int depth) {
            switch (body) {
                case 10: return x + number;
                case 11: return run(kind, LOOKS, x, depth) - v;
                case 12: return run(kind, SAYS, x, depth) * 2;
                case 20: return run(MAID, SAYS, x, depth) ^ 6;
                case 30: return run(MAID, LOOKS, x * 3, depth);
                case 40: return run(MAID, TELLS, x, depth) + run(kind, SAYS, 1, depth);
                case 50: return -run(SETTER, LOOKS, x, depth);
                case 51: return run(SETTER, SAYS, x + 1, depth);
                case 60: return run(TURNER, TELLS, x - number, depth);
                case 70: return run(WIPER, SAYS, x, depth) + run(WIPER, LOOKS, 2, depth);
                case 71: return run(WIPER, LOOKS, x, depth) ^ v;
                default: return 0;
            }
        }
    }

    /** A row of items of a sort, or nothing (NO_SORT, and then of no length). */
    private static final class Tape {
        int sort = NO_SORT;
        int length = 0;
        final long[] items = new long[TAPE_LIMIT];

        void become(int newSort, int n) {
            sort = newSort;
            length = n;
            for (int i = 0; i < TAPE_LIMIT; i++) {
                items[i] = 0;
            }
        }

        boolean hasItem(int i) {
            return i >= 0 && i < length;
        }

        boolean hasPart(int i, int n) {
            return n >= 0 && i >= 0 && n <= length && i <= length - n;
        }

        void put(int i, long v) {
            switch (sort) {
                case BYTES: items[i] = (byte) v; break;
                case SHORTS: items[i] = (short) v; break;
                case INTS: items[i] = (int) v; break;
                case BOOLEANS: items[i] = v != 0 ? 1 : 0; break;
                default: items[i] = v;
            }
        }
    }
}
