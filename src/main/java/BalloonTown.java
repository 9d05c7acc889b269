/**
 * A town of moored balloons that rise by day and sink by frost. What each call
 * promises stands in the project's document; README.md tells how to use it.
 */
public final class BalloonTown {
    public static final int BAD = -1, FULL = -2, NONE = -3, STATE = -4;

    private static final int NO_ROW = -9;
    private static final int NOTHING_THERE = -11, OUTSIDE = -12, OTHER_SORT = -13;
    private static final int BELOW_0 = -14, PARTED_BY_0 = -15;

    private static final int MOST_BALLOONS = 6, COLUMNS = 6, HOURS_OF_DAY = 24, LAST_NOW = 96;
    private static final int COLDEST = -20, WARMEST = 40, WARMTH_SHOWN_AS = 100;
    private static final int GAP_AT_FIRST = 3, MOST_GAP = 20;
    private static final int FARTHEST_GIFT = 20, MOST_GIVEN = 99, GIFT_OF_HELP = 10;
    private static final int LONGEST_TRIAL = 48, LONGEST_SEARCH = 24, MOST_COLDER = 40;
    private static final int MOST_BYTES = 240, FAULT_SHOWN_AS = -100;
    private static final int MOST_ROWS = 20, ROW_PARTS = 3;
    private static final int SHEETS = 4, MOST_ITEMS = 40, SHELVES = 4;
    private static final int ACTS = 4, MOST_BODIES = 30;

    private static final int PLAIN = 0, SILK = 1, LEAKY = 2, PATCHED = 3, CHAPEL = 4, BARGE = 5;
    private static final int KINDS = 6;
    /** For each KIND the one that it is under. */
    private static final int[] UNDER = {-1, PLAIN, PLAIN, LEAKY, SILK, PLAIN};

    /** The parts of a BALLOON by the numbers that balloonOf() and becomes() give them. */
    private static final int KIND = 0, A = 1, COLUMN = 2, HEIGHT = 3, ROPE = 4;
    private static final int GAS = 5, SAND = 6, BREAD = 7, MOUTHS = 8;
    private static final int PARTS = 9, WEIGHT = 9, TARGET = 10, LEAKS = 11;
    private static final int[] LEAST = {0, 0, 0, 0, 1, 0, 0, 0, 0};
    private static final int[] MOST = {5, 9, 5, 99, 99, 999, 999, 99, 9};
    private static final int[] AT_FIRST = {0, 0, 0, 0, 50, 100, 50, 20, 1};

    private static final int MISSING = -1, BYTES = 0, SHORTS = 1, LONGS = 3;
    private static final int HOLDS_BALLOON = 0, HOLDS_ROW = 1, HOLDS_NOTHING = 2;
    private static final int AS_ROW = 10;

    private final Town live = new Town();
    private final Town kept = new Town();
    private boolean anyKept = false;
    private final Town told = new Town();
    private final Tape tape = new Tape();
    private final Trial trial = new Trial(live);
    private final int[][] rows = new int[MOST_ROWS][ROW_PARTS];
    private int rowCount = 0;
    private final Sheet[] sheets = new Sheet[SHEETS];
    private final Shelf[] shelves = new Shelf[SHELVES];
    private final Acts acts = new Acts();

    public BalloonTown() {
        for (int i = 0; i < SHEETS; i++) {
            sheets[i] = new Sheet();
        }
        for (int i = 0; i < SHELVES; i++) {
            shelves[i] = new Shelf();
        }
    }

    // ---- the town

    public int feed(long eight, int n) {
        if (!within(n, 1, 8)) {
            return BAD;
        }
        if (n > MOST_BYTES - tape.size) {
            return FULL;
        }
        tape.take(eight, n);
        return tape.size;
    }

    public int town() {
        int fault = tape.readInto(told);
        tape.size = 0;
        if (fault >= 0) {
            return FAULT_SHOWN_AS - fault;
        }
        told.z = live.z;
        live.copyFrom(told);
        rowCount = 0;
        return live.count;
    }

    public int warm(int hour, int v) {
        if (!isHour(hour) || !within(v, COLDEST, WARMEST)) {
            return BAD;
        }
        int was = live.warmths[hour];
        live.warmths[hour] = v;
        return was + WARMTH_SHOWN_AS;
    }

    public int warmth(int hour) {
        return isHour(hour) ? live.warmths[hour] + WARMTH_SHOWN_AS : BAD;
    }

    public int gap(int v) {
        if (!within(v, 1, MOST_GAP)) {
            return BAD;
        }
        int was = live.gap;
        live.gap = v;
        return was;
    }

    public int balloon(int kind, int a, int column) {
        if (!fits(KIND, kind) || !fits(A, a) || !fits(COLUMN, column)) {
            return BAD;
        }
        if (live.count >= MOST_BALLOONS) {
            return FULL;
        }
        live.add(kind, a, column);
        return live.count - 1;
    }

    public int balloonOf(int balloon, int what) {
        if (!live.has(balloon) || !within(what, KIND, LEAKS)) {
            return BAD;
        }
        Balloon one = live.balloons[balloon];
        switch (what) {
            case WEIGHT:
                return one.weight();
            case TARGET:
                return one.target(live.warmths[live.hourNow()]);
            case LEAKS:
                return one.leaks(live.hourNow());
            default:
                return one.parts[what];
        }
    }

    public int becomes(int balloon, int what, int v) {
        if (!live.has(balloon) || !within(what, COLUMN, MOUTHS) || !fits(what, v)) {
            return BAD;
        }
        Balloon one = live.balloons[balloon];
        int was = one.parts[what];
        one.parts[what] = v;
        return was;
    }

    public int mind(int balloon, int kind, int a) {
        if (!live.has(balloon) || !fits(KIND, kind) || !fits(A, a)) {
            return BAD;
        }
        Balloon one = live.balloons[balloon];
        int was = one.parts[KIND];
        one.parts[KIND] = kind;
        one.parts[A] = a;
        return was;
    }

    public int pour(int balloon, int n) {
        if (!live.has(balloon) || !within(n, 1, MOST[SAND])) {
            return BAD;
        }
        Balloon one = live.balloons[balloon];
        if (one.parts[SAND] < n) {
            return STATE;
        }
        one.parts[SAND] -= n;
        return one.parts[SAND];
    }

    public int give(int from, int to, int what, int n) {
        if (!live.has(from) || !live.has(to) || from == to) {
            return BAD;
        }
        if (!within(what, 0, 1) || !within(n, 1, MOST_GIVEN)) {
            return BAD;
        }
        int part = what == 0 ? SAND : BREAD;
        if (!live.canGive(from, to, part, n)) {
            return STATE;
        }
        live.balloons[from].parts[part] -= n;
        live.balloons[to].parts[part] += n;
        return live.balloons[to].parts[part];
    }

    public int touches(int balloon) {
        return live.has(balloon) ? live.touchedBy(balloon) : BAD;
    }

    public int above(int balloon, int what) {
        if (!live.has(balloon) || !within(what, 0, 1)) {
            return BAD;
        }
        return what == 0 ? live.nextAbove(balloon) : live.nextBelow(balloon);
    }

    // ---- hours

    public int hours(int n) {
        if (!within(n, 0, LONGEST_TRIAL)) {
            return BAD;
        }
        for (int gone = 0; gone < n && live.now < LAST_NOW; gone++) {
            live.passHour();
        }
        return live.now;
    }

    public int clock(int v) {
        if (!within(v, 0, LAST_NOW)) {
            return BAD;
        }
        int was = live.now;
        live.now = v;
        return was;
    }

    // ---- what will be

    public int height(int balloon, int n) {
        if (!live.has(balloon) || !within(n, 0, LONGEST_TRIAL)) {
            return BAD;
        }
        trial.run(n, 0);
        return trial.heights[balloon][trial.last];
    }

    public int first(int what) {
        if (!within(what, 0, 1)) {
            return BAD;
        }
        trial.run(LONGEST_TRIAL, 0);
        for (int behind = 0; behind <= trial.last; behind++) {
            int pair = trial.leastPair(behind);
            if (pair != NONE) {
                return what == 0 ? behind : pair;
            }
        }
        return NONE;
    }

    public int clear(int balloon, int n) {
        if (!live.has(balloon) || !within(n, 0, LONGEST_TRIAL)) {
            return BAD;
        }
        trial.run(n, 0);
        return trial.isClearIn(balloon, live.balloons[balloon].parts[COLUMN]) ? 1 : 0;
    }

    public int leastSand(int balloon, int n) {
        if (!live.has(balloon) || !within(n, 0, LONGEST_SEARCH)) {
            return BAD;
        }
        trial.run(n, 0);
        int sand = live.balloons[balloon].parts[SAND];
        for (int poured = 0; poured <= sand; poured++) {
            if (trial.isClearWith(balloon, SAND, sand - poured)) {
                return poured;
            }
        }
        return NONE;
    }

    public int ropeFor(int balloon, int n) {
        if (!live.has(balloon) || !within(n, 0, LONGEST_SEARCH)) {
            return BAD;
        }
        trial.run(n, 0);
        for (int rope = MOST[ROPE]; rope >= LEAST[ROPE]; rope--) {
            if (trial.isClearWith(balloon, ROPE, rope)) {
                return rope;
            }
        }
        return NONE;
    }

    public int columnFor(int balloon, int n) {
        if (!live.has(balloon) || !within(n, 0, LONGEST_SEARCH)) {
            return BAD;
        }
        trial.run(n, 0);
        for (int column = 0; column < COLUMNS; column++) {
            if (trial.isClearIn(balloon, column)) {
                return column;
            }
        }
        return NONE;
    }

    public int lasts(int balloon) {
        if (!live.has(balloon)) {
            return BAD;
        }
        int bread = live.balloons[balloon].parts[BREAD];
        int mouths = live.balloons[balloon].parts[MOUTHS];
        if (bread == 0) {
            return 0;
        }
        if (mouths <= 0) {
            return NONE;
        }
        return (bread + mouths - 1) / mouths;
    }

    public int reached(int balloon) {
        return live.has(balloon) ? live.reachedBy(balloon) : BAD;
    }

    public int help(int n) {
        if (!within(n, 1, LONGEST_SEARCH)) {
            return BAD;
        }
        trial.run(n, 0);
        int best = NONE;
        int fewest = 0;
        for (int from = 0; from < live.count; from++) {
            for (int to = 0; to < live.count; to++) {
                if (from == to || !live.canGive(from, to, SAND, GIFT_OF_HELP)) {
                    continue;
                }
                int pairs = trial.pairsWithGift(from, to, GIFT_OF_HELP);
                if (best == NONE || pairs < fewest) {
                    best = 10 * from + to;
                    fewest = pairs;
                }
            }
        }
        return best;
    }

    public int cold() {
        for (int colder = MOST_COLDER; colder >= 1; colder--) {
            trial.run(HOURS_OF_DAY, colder);
            if (trial.isClearForAll()) {
                return colder;
            }
        }
        return NONE;
    }

    public int highest(int n) {
        if (!within(n, 0, LONGEST_TRIAL)) {
            return BAD;
        }
        trial.run(n, 0);
        int best = NONE;
        for (int i = 0; i < live.count; i++) {
            if (best == NONE || trial.heights[i][trial.last] > trial.heights[best][trial.last]) {
                best = i;
            }
        }
        return best;
    }

    public int seed(int v) {
        int was = live.z;
        live.z = v;
        return was;
    }

    public int draw(int hour) {
        if (!isHour(hour)) {
            return BAD;
        }
        live.z = live.z * 1103515245 + 12345;
        live.warmths[hour] = (live.z >>> 16) % 61 + COLDEST;
        return live.warmths[hour] + WARMTH_SHOWN_AS;
    }

    // ---- rows

    public int prove(int balloon, int n) {
        if (!live.has(balloon) || !within(n, 1, MOST_ROWS)) {
            return BAD;
        }
        trial.run(n, 0);
        rowCount = trial.last;
        for (int i = 0; i < rowCount; i++) {
            for (int what = 0; what < ROW_PARTS; what++) {
                rows[i][what] = trial.rowPart(balloon, i + 1, what);
            }
        }
        return rowCount;
    }

    public int row(int i, int what) {
        return isRowPart(i, what) ? rows[i][what] : NO_ROW;
    }

    public int alterRow(int i, int what, int v) {
        if (!isRowPart(i, what)) {
            return NO_ROW;
        }
        int was = rows[i][what];
        rows[i][what] = v;
        return was;
    }

    public int judge(int balloon) {
        if (!live.has(balloon)) {
            return BAD;
        }
        trial.run(rowCount, 0);
        for (int i = 0; i < rowCount; i++) {
            if (i + 1 > trial.last || !isRowRight(balloon, i)) {
                return i + 1;
            }
        }
        return 0;
    }

    public int warms(int sheet, int i, int hour, int n) {
        if (!isSheet(sheet) || !isHour(hour) || !within(n, 0, HOURS_OF_DAY - hour)) {
            return BAD;
        }
        Sheet from = sheets[sheet];
        if (from.sort == MISSING) {
            return NOTHING_THERE;
        }
        if (from.sort != BYTES) {
            return OTHER_SORT;
        }
        // i + n could wrap, from.length - n can't
        if (i < 0 || i > from.length - n) {
            return OUTSIDE;
        }
        for (int k = 0; k < n; k++) {
            live.warmths[hour + k] = held(from.items[i + k], COLDEST, WARMEST);
        }
        return n;
    }

    // ---- the host

    public int sheet(int sheet, int sort, int n) {
        if (!isSheet(sheet) || !within(sort, MISSING, LONGS)) {
            return BAD;
        }
        if (sort == MISSING) {
            sheets[sheet].becomeRow(MISSING, 0);
            return 1;
        }
        if (n > MOST_ITEMS) {
            return BAD;
        }
        if (n < 0) {
            return BELOW_0;
        }
        sheets[sheet].becomeRow(sort, n);
        return 1;
    }

    public int put(int sheet, int i, int v) {
        if (!isSheet(sheet)) {
            return BAD;
        }
        Sheet into = sheets[sheet];
        if (into.sort == MISSING) {
            return NOTHING_THERE;
        }
        if (!within(i, 0, into.length - 1)) {
            return OUTSIDE;
        }
        into.items[i] = into.narrowed(v);
        return 1;
    }

    public int item(int sheet, int sort, int i) {
        if (!isSheet(sheet) || !within(sort, BYTES, LONGS)) {
            return BAD;
        }
        Sheet from = sheets[sheet];
        if (from.sort == MISSING) {
            return NOTHING_THERE;
        }
        if (from.sort != sort) {
            return OTHER_SORT;
        }
        return within(i, 0, from.length - 1) ? from.items[i] : OUTSIDE;
    }

    public int shelf(int shelf, int what, int n) {
        if (!isShelf(shelf)) {
            return BAD;
        }
        switch (what) {
            case HOLDS_BALLOON:
                if (!live.has(n)) {
                    return BAD;
                }
                shelves[shelf].holdBalloon(n);
                return 1;
            case HOLDS_ROW:
                if (!isSheet(n)) {
                    return BAD;
                }
                shelves[shelf].holdRow(sheets[n]);
                return 1;
            case HOLDS_NOTHING:
                shelves[shelf].holds = HOLDS_NOTHING;
                return 1;
            default:
                return BAD;
        }
    }

    public int taken(int shelf, int as) {
        boolean asKind = within(as, PLAIN, KINDS - 1);
        if (!isShelf(shelf) || !asKind && !within(as - AS_ROW, BYTES, LONGS)) {
            return BAD;
        }
        Shelf from = shelves[shelf];
        boolean balloonThere = holdsBalloon(from);
        if (!balloonThere && from.holds != HOLDS_ROW) {
            return NOTHING_THERE;
        }
        if (asKind) {
            boolean right = balloonThere && isUnder(live.balloons[from.number].parts[KIND], as);
            return right ? from.number : OTHER_SORT;
        }
        boolean right = from.holds == HOLDS_ROW && from.sort == as - AS_ROW;
        return right ? from.length : OTHER_SORT;
    }

    public int act(int shelf, int act, int x) {
        acts.forget();
        if (!isShelf(shelf) || !within(act, 0, ACTS - 1) || !holdsBalloon(shelves[shelf])) {
            return 0;
        }
        int number = shelves[shelf].number;
        return acts.answer(live.balloons[number], number, act, x);
    }

    public int trace(int i) {
        return within(i, 0, acts.ran - 1) ? acts.bodies[i] : NONE;
    }

    public int many(int what) {
        switch (what) {
            case 0:
                return live.count;
            case 1:
                return live.touchingPairs();
            case 2:
                return live.now;
            case 3:
                return rowCount;
            case 4:
                return tape.size;
            case 5:
                return acts.ran;
            default:
                return BAD;
        }
    }

    // ---- kept

    public int keep() {
        kept.copyFrom(live);
        anyKept = true;
        return 1;
    }

    public int again() {
        if (!anyKept) {
            return NONE;
        }
        live.copyFrom(kept);
        return live.now;
    }

    // ---- what the calls ask of their numbers

    private static boolean within(int v, int least, int most) {
        return v >= least && v <= most;
    }

    private static int held(int v, int least, int most) {
        return v < least ? least : v > most ? most : v;
    }

    private static boolean fits(int part, int v) {
        return within(v, LEAST[part], MOST[part]);
    }

    private static boolean isHour(int hour) {
        return within(hour, 0, HOURS_OF_DAY - 1);
    }

    private static boolean isSheet(int sheet) {
        return within(sheet, 0, SHEETS - 1);
    }

    private static boolean isShelf(int shelf) {
        return within(shelf, 0, SHELVES - 1);
    }

    private static boolean isUnder(int kind, int other) {
        int at = kind;
        for (int step = 0; step < KINDS && at >= 0; step++) {
            if (at == other) {
                return true;
            }
            at = UNDER[at];
        }
        return false;
    }

    private boolean isRowPart(int i, int what) {
        return within(i, 0, rowCount - 1) && within(what, 0, ROW_PARTS - 1);
    }

    private boolean isRowRight(int balloon, int i) {
        for (int what = 0; what < ROW_PARTS; what++) {
            if (rows[i][what] != trial.rowPart(balloon, i + 1, what)) {
                return false;
            }
        }
        return true;
    }

    /** A SHELF may still name a BALLOON that went with an earlier town. */
    private boolean holdsBalloon(Shelf from) {
        return from.holds == HOLDS_BALLOON && live.has(from.number);
    }

    /** One BALLOON, by its parts. */
    private static final class Balloon {
        final int[] parts = new int[PARTS];

        void begin(int kind, int a, int column) {
            System.arraycopy(AT_FIRST, 0, parts, 0, PARTS);
            parts[KIND] = kind;
            parts[A] = a;
            parts[COLUMN] = column;
        }

        void copyFrom(Balloon other) {
            System.arraycopy(other.parts, 0, parts, 0, PARTS);
        }

        int lift(int t) {
            int gas = parts[GAS];
            switch (parts[KIND]) {
                case SILK:
                    return gas + gas * 2 * t / 100;
                case CHAPEL:
                    return gas + gas * 2 * t / 100 + 5;
                default:
                    return gas + gas * t / 100;
            }
        }

        int weight() {
            return parts[SAND] + parts[BREAD] + parts[MOUTHS] + parts[A];
        }

        int target(int t) {
            int rest = lift(t) - weight();
            return held(parts[KIND] == BARGE ? rest / 2 : rest, 0, parts[ROPE]);
        }

        int leaks(int hour) {
            switch (parts[KIND]) {
                case LEAKY:
                    return 2;
                case PATCHED:
                    return hour % 2 == 0 ? 1 : 0;
                default:
                    return 0;
            }
        }

        void passHour(int t, int hour) {
            parts[HEIGHT] += held(target(t) - parts[HEIGHT], -10, 10);
            parts[GAS] = Math.max(0, parts[GAS] - leaks(hour));
            parts[BREAD] = Math.max(0, parts[BREAD] - parts[MOUTHS]);
        }
    }

    /** All that keep() keeps. */
    private static final class Town {
        final int[] warmths = new int[HOURS_OF_DAY];
        final Balloon[] balloons = new Balloon[MOST_BALLOONS];
        int count = 0;
        int now = 0;
        int gap = GAP_AT_FIRST;
        int z = 1;

        Town() {
            for (int i = 0; i < MOST_BALLOONS; i++) {
                balloons[i] = new Balloon();
            }
        }

        void becomeEmpty() {
            for (int hour = 0; hour < HOURS_OF_DAY; hour++) {
                warmths[hour] = 0;
            }
            count = 0;
            now = 0;
            gap = GAP_AT_FIRST;
        }

        void copyFrom(Town other) {
            System.arraycopy(other.warmths, 0, warmths, 0, HOURS_OF_DAY);
            for (int i = 0; i < other.count; i++) {
                balloons[i].copyFrom(other.balloons[i]);
            }
            count = other.count;
            now = other.now;
            gap = other.gap;
            z = other.z;
        }

        boolean has(int number) {
            return within(number, 0, count - 1);
        }

        void add(int kind, int a, int column) {
            balloons[count].begin(kind, a, column);
            count++;
        }

        int hourNow() {
            return now % HOURS_OF_DAY;
        }

        void passHour() {
            int hour = hourNow();
            for (int i = 0; i < count; i++) {
                balloons[i].passHour(warmths[hour], hour);
            }
            now++;
        }

        int heightOf(int i) {
            return balloons[i].parts[HEIGHT];
        }

        boolean shareColumn(int i, int j) {
            return i != j && balloons[i].parts[COLUMN] == balloons[j].parts[COLUMN];
        }

        /** Whether those HEIGHTS are too near, if they are in one COLUMN. */
        boolean tooNear(int one, int other) {
            return one > 0 && other > 0 && Math.abs(one - other) < gap;
        }

        int touchedBy(int i) {
            int set = 0;
            for (int j = 0; j < count; j++) {
                if (shareColumn(i, j) && tooNear(heightOf(i), heightOf(j))) {
                    set |= 1 << j;
                }
            }
            return set;
        }

        int touchingPairs() {
            int ends = 0;
            for (int i = 0; i < count; i++) {
                ends += Integer.bitCount(touchedBy(i));
            }
            return ends / 2;
        }

        boolean hangsAbove(int i, int j) {
            return heightOf(i) > heightOf(j) || heightOf(i) == heightOf(j) && i > j;
        }

        int nextAbove(int i) {
            int next = NONE;
            for (int j = 0; j < count; j++) {
                if (shareColumn(i, j) && hangsAbove(j, i) && (next == NONE || hangsAbove(next, j))) {
                    next = j;
                }
            }
            return next;
        }

        int nextBelow(int i) {
            int next = NONE;
            for (int j = 0; j < count; j++) {
                if (shareColumn(i, j) && hangsAbove(i, j) && (next == NONE || hangsAbove(j, next))) {
                    next = j;
                }
            }
            return next;
        }

        int reachedBy(int i) {
            return inReach(i, nextAbove(i)) | inReach(i, nextBelow(i));
        }

        private int inReach(int i, int neighbour) {
            if (neighbour == NONE || Math.abs(heightOf(i) - heightOf(neighbour)) > FARTHEST_GIFT) {
                return 0;
            }
            return 1 << neighbour;
        }

        boolean canGive(int from, int to, int part, int n) {
            return (reachedBy(from) >> to & 1) == 1
                && balloons[from].parts[part] >= n
                && balloons[to].parts[part] + n <= MOST[part];
        }
    }

    /**
     * HEIGHTS and GAS behind each of the next HOURS. No BALLOON's way depends on
     * another one's, so a changed one is followed anew alone.
     */
    private static final class Trial {
        private final Town town;
        private final Balloon one = new Balloon();
        final int[][] heights = new int[MOST_BALLOONS][LONGEST_TRIAL + 1];
        private final int[][] gases = new int[MOST_BALLOONS][LONGEST_TRIAL + 1];
        private int colder = 0;
        /** How many HOURS there are to go, of those asked for. */
        int last = 0;

        Trial(Town town) {
            this.town = town;
        }

        void run(int hours, int lessWarm) {
            last = Math.min(hours, LAST_NOW - town.now);
            colder = lessWarm;
            for (int i = 0; i < town.count; i++) {
                followWith(i, SAND, town.balloons[i].parts[SAND]);
            }
        }

        private void followWith(int i, int part, int v) {
            one.copyFrom(town.balloons[i]);
            one.parts[part] = v;
            note(i, 0);
            for (int behind = 1; behind <= last; behind++) {
                step(behind);
                note(i, behind);
            }
        }

        private void step(int behind) {
            int hour = (town.now + behind - 1) % HOURS_OF_DAY;
            one.passHour(town.warmths[hour] - colder, hour);
        }

        private void note(int i, int behind) {
            heights[i][behind] = one.parts[HEIGHT];
            gases[i][behind] = one.parts[GAS];
        }

        private boolean near(int i, int j, int behind) {
            return town.tooNear(heights[i][behind], heights[j][behind]);
        }

        private int touchedIn(int i, int column, int behind) {
            int many = 0;
            for (int j = 0; j < town.count; j++) {
                if (j != i && town.balloons[j].parts[COLUMN] == column && near(i, j, behind)) {
                    many++;
                }
            }
            return many;
        }

        boolean isClearIn(int i, int column) {
            for (int behind = 0; behind <= last; behind++) {
                if (touchedIn(i, column, behind) > 0) {
                    return false;
                }
            }
            return true;
        }

        /** Leaves the way of i as it was followed last, as far as it was clear. */
        boolean isClearWith(int i, int part, int v) {
            int column = town.balloons[i].parts[COLUMN];
            one.copyFrom(town.balloons[i]);
            one.parts[part] = v;
            for (int behind = 0; behind <= last; behind++) {
                if (behind > 0) {
                    step(behind);
                }
                note(i, behind);
                if (touchedIn(i, column, behind) > 0) {
                    return false;
                }
            }
            return true;
        }

        /** 10 times the lesser number and the other one, or NONE. */
        int leastPair(int behind) {
            for (int i = 0; i < town.count; i++) {
                for (int j = i + 1; j < town.count; j++) {
                    if (town.shareColumn(i, j) && near(i, j, behind)) {
                        return 10 * i + j;
                    }
                }
            }
            return NONE;
        }

        /** Behind the HOURS to come: what touches now doesn't count. */
        boolean isClearForAll() {
            for (int behind = 1; behind <= last; behind++) {
                if (leastPair(behind) != NONE) {
                    return false;
                }
            }
            return true;
        }

        private int pairsToCome() {
            int ends = 0;
            for (int behind = 1; behind <= last; behind++) {
                for (int i = 0; i < town.count; i++) {
                    ends += touchedIn(i, town.balloons[i].parts[COLUMN], behind);
                }
            }
            return ends / 2;
        }

        int pairsWithGift(int from, int to, int n) {
            int ofGiver = town.balloons[from].parts[SAND];
            int ofOther = town.balloons[to].parts[SAND];
            followWith(from, SAND, ofGiver - n);
            followWith(to, SAND, ofOther + n);
            int pairs = pairsToCome();
            followWith(from, SAND, ofGiver);
            followWith(to, SAND, ofOther);
            return pairs;
        }

        int rowPart(int i, int behind, int what) {
            switch (what) {
                case 0:
                    return heights[i][behind];
                case 1:
                    return gases[i][behind];
                default:
                    return touchedIn(i, town.balloons[i].parts[COLUMN], behind);
            }
        }
    }

    /** THE TAPE, and the reading of its TEXT. */
    private static final class Tape {
        private static final int END = 0, NAME = 1, NUMBER = 2, OTHER = 3;
        private static final int BLANK = 32, MOST_DIGITS = 3;

        private final byte[] bytes = new byte[MOST_BYTES];
        int size = 0;
        /** The NAME, NUMBER or other byte that is looked at: its sort, its place, and the one behind it. */
        private int sort = END;
        private int start = 0;
        private int end = 0;
        private int fault = NONE;

        void take(long eight, int n) {
            for (int i = 0; i < n; i++) {
                bytes[size] = (byte) (eight >> 8 * i);
                size++;
            }
        }

        /** Answers the FAULT, or NONE. */
        int readInto(Town town) {
            town.becomeEmpty();
            fault = NONE;
            end = 0;
            advance();
            for (int told = 0; told < MOST_BYTES && sort != END && fault == NONE; told++) {
                int kind = kindHere();
                if (kind != NONE) {
                    readBalloon(town, kind);
                } else if (isName("warm")) {
                    readWarmth(town, WARMEST, 1);
                } else if (isName("cold")) {
                    readWarmth(town, -COLDEST, -1);
                } else if (isName("gap")) {
                    advance();
                    town.gap = number(1, MOST_GAP);
                } else {
                    fail();
                }
                passSign(';');
            }
            return fault;
        }

        private void readBalloon(Town town, int kind) {
            if (town.count >= MOST_BALLOONS) {
                fail();
                return;
            }
            advance();
            int a = number(LEAST[A], MOST[A]);
            passName("in");
            town.add(kind, a, number(LEAST[COLUMN], MOST[COLUMN]));
            int[] parts = town.balloons[town.count - 1].parts;
            readPart("gas", parts, GAS);
            readPart("sand", parts, SAND);
            readPart("rope", parts, ROPE);
            readPart("bread", parts, BREAD);
            readPart("mouths", parts, MOUTHS);
        }

        private void readPart(String name, int[] parts, int part) {
            if (fault == NONE && isName(name)) {
                advance();
                parts[part] = number(LEAST[part], MOST[part]);
            }
        }

        private void readWarmth(Town town, int most, int sign) {
            advance();
            int hour = number(0, HOURS_OF_DAY - 1);
            int v = number(0, most);
            town.warmths[hour] = sign * v;
        }

        private int kindHere() {
            for (int kind = 0; kind < KINDS; kind++) {
                if (isName(nameOf(kind))) {
                    return kind;
                }
            }
            return NONE;
        }

        private static String nameOf(int kind) {
            switch (kind) {
                case SILK:
                    return "silk";
                case LEAKY:
                    return "leaky";
                case PATCHED:
                    return "patched";
                case CHAPEL:
                    return "chapel";
                case BARGE:
                    return "barge";
                default:
                    return "balloon";
            }
        }

        private boolean isName(String name) {
            if (sort != NAME || end - start != name.length()) {
                return false;
            }
            for (int i = 0; i < name.length(); i++) {
                if (bytes[start + i] != name.charAt(i)) {
                    return false;
                }
            }
            return true;
        }

        private void passName(String name) {
            if (isName(name)) {
                advance();
            } else {
                fail();
            }
        }

        private void passSign(char sign) {
            if (sort == OTHER && bytes[start] == sign) {
                advance();
            } else {
                fail();
            }
        }

        /** The NUMBER that stands here; behind a FAULT some number in range, which counts nothing. */
        private int number(int least, int most) {
            if (sort != NUMBER || end - start > MOST_DIGITS) {
                fail();
                return least;
            }
            int v = 0;
            for (int i = start; i < end; i++) {
                v = v * 10 + (bytes[i] - '0');
            }
            if (!within(v, least, most)) {
                fail();
                return least;
            }
            advance();
            return v;
        }

        /** The first FAULT alone counts; the end's place is how many bytes there are. */
        private void fail() {
            if (fault == NONE) {
                fault = start;
            }
        }

        private void advance() {
            start = end;
            while (start < size && bytes[start] == BLANK) {
                start++;
            }
            sort = sortAt(start);
            end = Math.min(start + 1, size);
            while ((sort == NAME || sort == NUMBER) && end < size && sortAt(end) == sort) {
                end++;
            }
        }

        private int sortAt(int place) {
            if (place >= size) {
                return END;
            }
            int sign = bytes[place];
            if (sign >= 'a' && sign <= 'z') {
                return NAME;
            }
            return sign >= '0' && sign <= '9' ? NUMBER : OTHER;
        }
    }

    /** A row of numbers of a sort, or a missing one. */
    private static final class Sheet {
        final int[] items = new int[MOST_ITEMS];
        int sort = MISSING;
        int length = 0;

        void becomeRow(int newSort, int n) {
            sort = newSort;
            length = n;
            for (int i = 0; i < n; i++) {
                items[i] = 0;
            }
        }

        /** Only ints are ever put and asked for, so the lowest 32 bits of a long are all of it. */
        int narrowed(int v) {
            switch (sort) {
                case BYTES:
                    return (byte) v;
                case SHORTS:
                    return (short) v;
                default:
                    return v;
            }
        }
    }

    /** What a SHELF holds: of a row its sort and length, as no call asks for more of it. */
    private static final class Shelf {
        int holds = HOLDS_NOTHING;
        int number = 0;
        int sort = MISSING;
        int length = 0;

        void holdBalloon(int n) {
            holds = HOLDS_BALLOON;
            number = n;
        }

        void holdRow(Sheet sheet) {
            holds = sheet.sort == MISSING ? HOLDS_NOTHING : HOLDS_ROW;
            sort = sheet.sort;
            length = sheet.length;
        }
    }

    /**
     * The ACTS of a thing, with THE TRACE of its BODIES. A body that goes on with
     * super's begins ahead of it, so both are told where the upper one stands.
     */
    private static final class Acts {
        final int[] bodies = new int[MOST_BODIES];
        int ran = 0;
        private boolean partedBy0 = false;
        private int kind = PLAIN;
        private int n = 0;
        private int a = 0;

        void forget() {
            ran = 0;
            partedBy0 = false;
        }

        int answer(Balloon thing, int number, int which, int x) {
            kind = thing.parts[KIND];
            a = thing.parts[A];
            n = number;
            int v = 0;
            switch (which) {
                case 0:
                    v = lifts(x);
                    break;
                case 1:
                    v = sinks(x);
                    break;
                case 2:
                    v = shares(x);
                    break;
                default:
                    v = tells(x);
                    break;
            }
            return partedBy0 ? PARTED_BY_0 : v;
        }

        /** Nothing begins behind a parting by 0. */
        private void begin(int body) {
            if (!partedBy0 && ran < MOST_BODIES) {
                bodies[ran] = body;
                ran++;
            }
        }

        private int lifts(int x) {
            switch (kind) {
                case LEAKY:
                    begin(30);
                    begin(10);
                    return (x + n) * 3;
                case PATCHED:
                    begin(40);
                    begin(30);
                    begin(10);
                    return 0 - (x + n) * 3;
                case CHAPEL:
                    begin(51);
                    begin(10);
                    return (x + n) - n;
                default:
                    begin(10);
                    return x + n;
            }
        }

        private int sinks(int x) {
            switch (kind) {
                case SILK:
                case CHAPEL:
                    begin(20);
                    begin(11);
                    return lifts(x) * 2 - a;
                case PATCHED:
                    begin(41);
                    begin(11);
                    return lifts(x) * 2 + lifts(n);
                default:
                    begin(11);
                    return lifts(x) * 2;
            }
        }

        private int shares(int x) {
            switch (kind) {
                case CHAPEL:
                    begin(50);
                    return parted(x + 2) ^ 1;
                case BARGE:
                    begin(61);
                    return parted(x) + lifts(a);
                default:
                    return parted(x);
            }
        }

        private int parted(int x) {
            begin(12);
            if (a == n) {
                partedBy0 = true;
                return 0;
            }
            return x / (a - n);
        }

        private int tells(int x) {
            switch (kind) {
                case LEAKY:
                case PATCHED:
                    begin(31);
                    begin(13);
                    return (sinks(x) ^ a) + shares(n);
                case BARGE:
                    begin(60);
                    begin(13);
                    return (sinks(x) ^ a) * 2;
                default:
                    begin(13);
                    return sinks(x) ^ a;
            }
        }
    }
}
