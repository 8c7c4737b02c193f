import java.util.Arrays;

/** Thermometers brought to baths and fixed points: the promises are those of DOC.md. */
public final class BathBook {
    public static final int BAD = -1, FULL = -2, FINDING = -3, STATE = -4, NONE = -9;

    private static final int NOTHING = 1, BEYOND = 2, UNLIKE = 3, NOUGHT = 4, SIZE = 5;
    private static final int GLASS = 1, COIL = 2, MASTER = 3;
    private static final int ROWS = 6, TABLES = 4, BATHS = 8, LABS = 6;
    private static final int MOST_READINGS = 40, MOST_POINTS = 4, MOST_BULBS = 16, MOST_CERTIFICATES = 40;
    private static final int TOP_READING = 100000, TOP_X = 20, TOP_SMALL = 10000;
    private static final int TOP_STEM = 1000, TOP_CURRENT = 100, LAST_DAY = 100000;
    private static final int MISSING = -1, UNTOLD = -1;
    private static final int COUNTS = 5, BULB_FACTS = 5, CERTIFICATE_FACTS = 7;

    private final Rows rows;
    private final Tables tables;
    private final Bulbs bulbs;
    private final Certificates certificates;
    private final Round round;
    private final Fraction fraction;
    private final int[] findingCounts;
    private int lastFinding;
    private long lastAsked;

    public BathBook() {
        rows = new Rows();
        tables = new Tables();
        bulbs = new Bulbs();
        certificates = new Certificates();
        round = new Round();
        fraction = new Fraction();
        findingCounts = new int[SIZE + 1];
        lastFinding = 0;
        lastAsked = 0;
    }

    // ---- 1 rows, tables

    public int row(int r, int n) {
        if (!isRow(r) || n > MOST_READINGS) {
            return BAD;
        }
        if (n < 0) {
            return refuse(SIZE);
        }
        rows.make(r, n);
        return n;
    }

    public int lay(int r, int i, int v) {
        if (!isRow(r) || !isWithin(v, TOP_READING)) {
            return BAD;
        }
        if (rows.isMissing(r)) {
            return refuse(NOTHING);
        }
        if (!rows.hasPlaces(r, i, 1)) {
            return refuse(BEYOND);
        }
        lastAsked = rows.readingAt(r, i);
        rows.put(r, i, v);
        return 1;
    }

    public int tear(int r) {
        if (!isRow(r)) {
            return BAD;
        }
        if (rows.isMissing(r)) {
            return refuse(NOTHING);
        }
        rows.drop(r);
        return 1;
    }

    public int copy(int r, int i, int to, int j, int n) {
        if (!isRow(r) || !isRow(to)) {
            return BAD;
        }
        if (n < 0) {
            return refuse(SIZE);
        }
        if (rows.isMissing(r) || rows.isMissing(to)) {
            return refuse(NOTHING);
        }
        if (!rows.hasPlaces(r, i, n) || !rows.hasPlaces(to, j, n)) {
            return refuse(BEYOND);
        }
        rows.carry(r, i, to, j, n);
        return 1;
    }

    public int mean(int r) {
        if (!isRow(r)) {
            return BAD;
        }
        if (rows.isMissing(r)) {
            return refuse(NOTHING);
        }
        int held = rows.heldCount(r);
        if (held == 0) {
            return refuse(NOUGHT);
        }
        lastAsked = rows.heldSum(r, 0, rows.sizeOf(r)) / held;
        return 1;
    }

    public int plateau(int r, int w, int m) {
        if (!isRow(r) || !isBetween(w, 0, TOP_READING) || !isBetween(m, 1, MOST_READINGS)) {
            return BAD;
        }
        if (rows.isMissing(r)) {
            return refuse(NOTHING);
        }
        int start = rows.longestLevelStart(r, w);
        int length = rows.levelLength(r, start, w);
        if (length < m) {
            return NONE;
        }
        fraction.tell(rows.heldSum(r, start, length), length);
        lastAsked = length;
        return start;
    }

    public int point(int table, int x, int y) {
        if (!isTable(table) || !isWithin(x, TOP_X) || !isWithin(y, TOP_SMALL) || tables.hasX(table, x)) {
            return BAD;
        }
        if (tables.sizeOf(table) >= MOST_POINTS) {
            return FULL;
        }
        return tables.add(table, x, y);
    }

    public int clear(int table) {
        return isTable(table) ? tables.empty(table) : BAD;
    }

    public int curve(int table, int x) {
        if (!isTable(table) || !isWithin(x, TOP_X)) {
            return BAD;
        }
        if (tables.sizeOf(table) == 0) {
            return STATE;
        }
        long share = tables.commonLower(table);
        fraction.tell(tables.worthAt(table, x, share), share);
        return 1;
    }

    public int apart(int table, int other, int a, int b) {
        if (!isTable(table) || !isTable(other) || !isWithin(a, TOP_X) || !isWithin(b, TOP_X) || a > b) {
            return BAD;
        }
        if (tables.sizeOf(table) == 0 || tables.sizeOf(other) == 0) {
            return STATE;
        }
        // One lower number for all x: then the upper ones alone tell which is greatest. It fits:
        // tried over all tables, upper numbers stay below 4.4e18.
        long share = leastMultiple(tables.commonLower(table), tables.commonLower(other));
        int widestAt = a;
        long widest = -1;
        for (int x = a; x <= b; x++) {
            long gap = Math.abs(tables.worthAt(table, x, share) - tables.worthAt(other, x, share));
            if (gap > widest) {
                widest = gap;
                widestAt = x;
            }
        }
        fraction.tell(widest, share);
        return widestAt + 100;
    }

    // ---- 2 bulbs

    public int bulb(int kind, int tolerance) {
        if (!isBetween(kind, 0, MASTER) || !isBetween(tolerance, 0, TOP_SMALL)) {
            return BAD;
        }
        return bulbs.size() >= MOST_BULBS ? FULL : bulbs.add(kind, tolerance);
    }

    public int told(int bulb, int what) {
        if (!bulbs.has(bulb)) {
            return BAD;
        }
        switch (what) {
            case 0:
                return bulbs.kindOf(bulb);
            case 1:
                return bulbs.toleranceOf(bulb);
            case 2:
                return certificates.countOf(Certificates.BULB, bulb, false);
            case 3:
                return certificates.countOf(Certificates.BULB, bulb, false)
                    - certificates.countOf(Certificates.BULB, bulb, true);
            case 4:
                return certificates.latestOf(bulb);
            default:
                return BAD;
        }
    }

    public int mark(int bulb, int kind) {
        if (!bulbs.has(bulb) || !isBetween(kind, GLASS, MASTER)) {
            return BAD;
        }
        if (!bulbs.isOf(bulb, kind)) {
            return refuse(UNLIKE);
        }
        if (kind == GLASS) {
            return bulbs.toleranceOf(bulb);
        }
        return kind == COIL
            ? certificates.countOf(Certificates.BY, bulb, true)
            : certificates.countOverBulb(bulb);
    }

    public int stem(int bulb, int reading, int n, int t, int s) {
        if (!bulbs.has(bulb) || !isWithin(reading, TOP_READING) || !isBetween(n, 0, TOP_STEM)
            || !isWithin(t, TOP_READING) || !isWithin(s, TOP_READING)) {
            return BAD;
        }
        if (!bulbs.isOf(bulb, GLASS)) {
            return refuse(UNLIKE);
        }
        fraction.tell(reading * 100000L + 16L * n * (t - s), 100000L);
        return 1;
    }

    public int currents(int bulb, int a, int i, int b, int j) {
        if (!bulbs.has(bulb) || !isWithin(a, TOP_READING) || !isWithin(b, TOP_READING)
            || !isBetween(i, 1, TOP_CURRENT) || !isBetween(j, 1, TOP_CURRENT)) {
            return BAD;
        }
        if (!bulbs.isOf(bulb, COIL)) {
            return refuse(UNLIKE);
        }
        if (i == j) {
            return refuse(NOUGHT);
        }
        long first = (long) i * i;
        long second = (long) j * j;
        fraction.tell(a * second - b * first, second - first);
        return 1;
    }

    public int compare(int r, int i) {
        if (!isRow(r)) {
            return BAD;
        }
        if (rows.isMissing(r)) {
            return refuse(NOTHING);
        }
        int size = rows.sizeOf(r);
        if (size < 4 || size % 2 != 0 || rows.heldCount(r) != size) {
            return refuse(SIZE);
        }
        int others = size / 2 - 1;
        if (!isBetween(i, 0, others - 1)) {
            return NONE;
        }
        fraction.tell(rows.mirrorSum(r, i + 1) - rows.mirrorSum(r, 0), 2);
        return 1;
    }

    // ---- 3 certificates

    public int certify(int bulb, int by, int bath, int day, int offset, int end) {
        if (!bulbs.has(bulb) || by != NONE && !bulbs.has(by) || by == bulb || !isBath(bath)
            || !isDay(day) || !isWithin(offset, TOP_SMALL) || !isBetween(end, 0, TOP_SMALL)) {
            return BAD;
        }
        if (certificates.size() >= MOST_CERTIFICATES) {
            return FULL;
        }
        int rest = by == NONE ? NONE : certificates.lastUntil(by, day, certificates.size());
        if (by != NONE && rest == NONE) {
            return STATE;
        }
        return certificates.add(bulb, by, bath, day, offset, end, rest);
    }

    public int certificate(int c, int what) {
        if (!certificates.has(c) || !isBetween(what, 0, CERTIFICATE_FACTS - 1)) {
            return BAD;
        }
        return certificates.fact(c, what);
    }

    public int offset(int c) {
        if (!certificates.has(c)) {
            return BAD;
        }
        lastAsked = certificates.fact(c, Certificates.OFFSET);
        return 1;
    }

    public int wrong(int bath, int a, int b) {
        if (!isBath(bath) || !isDay(a) || !isDay(b) || a > b) {
            return BAD;
        }
        return certificates.makeVoid(bath, a, b);
    }

    public int passes(int bulb) {
        if (!bulbs.has(bulb)) {
            return BAD;
        }
        int latest = certificates.latestOf(bulb);
        if (latest == NONE) {
            return STATE;
        }
        int reach = Math.abs(certificates.fact(latest, Certificates.OFFSET))
            + certificates.fact(latest, Certificates.END);
        return reach <= bulbs.toleranceOf(bulb) ? 1 : 0;
    }

    public int whole(int c) {
        if (!certificates.has(c)) {
            return BAD;
        }
        lastAsked = certificates.squaredEnds(c);
        return certificates.chainLength(c);
    }

    public int drift(int bulb) {
        int refusal = driftRefusal(bulb);
        if (refusal != 0) {
            return refusal;
        }
        int latest = certificates.latestOf(bulb);
        int before = certificates.lastUntil(bulb, LAST_DAY, latest);
        fraction.tell(certificates.rise(Certificates.OFFSET, before, latest),
            certificates.rise(Certificates.DAY, before, latest));
        return 1;
    }

    public int due(int bulb) {
        int refusal = driftRefusal(bulb);
        if (refusal != 0) {
            return refusal;
        }
        int latest = certificates.latestOf(bulb);
        int before = certificates.lastUntil(bulb, LAST_DAY, latest);
        long change = certificates.rise(Certificates.OFFSET, before, latest);
        long days = certificates.rise(Certificates.DAY, before, latest);
        long room = bulbs.toleranceOf(bulb) - certificates.fact(latest, Certificates.END);
        long wait = days < 0
            ? daysWithin(certificates.fact(latest, Certificates.OFFSET), room, -change, -days)
            : daysWithin(certificates.fact(latest, Certificates.OFFSET), room, change, days);
        return (int) Math.min(certificates.fact(latest, Certificates.DAY) + wait, LAST_DAY + 1L);
    }

    public int resting(int c) {
        return certificates.has(c) ? certificates.countOver(c) : BAD;
    }

    public int lab(int a, int b, int v, int end) {
        if (!isLab(a) || !isLab(b) || a == b || !isWithin(v, TOP_SMALL) || !isBetween(end, 0, TOP_SMALL)) {
            return BAD;
        }
        round.put(a, b, v, end);
        return 1;
    }

    public int closes(int a, int b, int c) {
        if (!isLab(a) || !isLab(b) || !isLab(c) || a == b || b == c || c == a) {
            return BAD;
        }
        if (!round.isKnown(a, b, c)) {
            return STATE;
        }
        lastAsked = round.gap(a, b, c);
        return round.isShut(a, b, c) ? 1 : 0;
    }

    public int open() {
        int open = 0;
        for (int a = 0; a < LABS; a++) {
            for (int b = a + 1; b < LABS; b++) {
                for (int c = b + 1; c < LABS; c++) {
                    if (round.isKnown(a, b, c) && !round.isShut(a, b, c)) {
                        open++;
                    }
                }
            }
        }
        return open;
    }

    // ---- 4 what is told

    public long asked() {
        return lastAsked;
    }

    public long upper() {
        return fraction.top;
    }

    public long lower() {
        return fraction.bottom;
    }

    public int count(int what) {
        switch (what) {
            case 0:
                return rows.presentCount();
            case 1:
                return tables.pointCount();
            case 2:
                return bulbs.size();
            case 3:
                return certificates.size();
            case 4:
                return certificates.countOf(Certificates.VOID, 1, false);
            default:
                return BAD;
        }
    }

    public int finding() {
        return lastFinding;
    }

    public int findings(int f) {
        return isBetween(f, NOTHING, SIZE) ? findingCounts[f] : BAD;
    }

    public long digest() {
        long h = 17;
        for (int what = 0; what < COUNTS; what++) {
            h = 31 * h + count(what);
        }
        for (int bulb = 0; bulb < bulbs.size(); bulb++) {
            for (int what = 0; what < BULB_FACTS; what++) {
                h = 31 * h + told(bulb, what);
            }
        }
        for (int c = 0; c < certificates.size(); c++) {
            for (int what = 0; what < CERTIFICATE_FACTS; what++) {
                h = 31 * h + certificates.fact(c, what);
            }
            h = 31 * h + certificates.fact(c, Certificates.OFFSET);
        }
        for (int r = 0; r < ROWS; r++) {
            h = rows.digestOn(h, r);
        }
        return h;
    }

    // ---- what several calls share

    private int refuse(int which) {
        if (isBetween(which, NOTHING, SIZE)) {
            lastFinding = which;
            findingCounts[which]++;
        }
        return FINDING;
    }

    /** 0: DRIFT can be told. */
    private int driftRefusal(int bulb) {
        if (!bulbs.has(bulb)) {
            return BAD;
        }
        int latest = certificates.latestOf(bulb);
        int before = latest == NONE ? NONE : certificates.lastUntil(bulb, LAST_DAY, latest);
        if (before == NONE) {
            return STATE;
        }
        return certificates.rise(Certificates.DAY, before, latest) == 0 ? refuse(NOUGHT) : 0;
    }

    /**
     * How many days an offset that changes by change in so many days (above 0) stays within room.
     * Offset and room are taken times the days, so that nothing has to be cut.
     */
    private static long daysWithin(long offset, long room, long change, long days) {
        long start = offset * days;
        long limit = room * days;
        if (Math.abs(start) > limit) {
            return 0;
        }
        if (change == 0) {
            return LAST_DAY + 1L;
        }
        long way = change > 0 ? limit - start : limit + start;
        return way / Math.abs(change) + 1;
    }

    private static boolean isBetween(int v, int least, int most) {
        return v >= least && v <= most;
    }

    private static boolean isWithin(int v, int most) {
        return isBetween(v, -most, most);
    }

    private static boolean isRow(int r) {
        return isBetween(r, 0, ROWS - 1);
    }

    private static boolean isTable(int table) {
        return isBetween(table, 0, TABLES - 1);
    }

    private static boolean isBath(int bath) {
        return isBetween(bath, 0, BATHS - 1);
    }

    private static boolean isDay(int day) {
        return isBetween(day, 0, LAST_DAY);
    }

    private static boolean isLab(int lab) {
        return isBetween(lab, 0, LABS - 1);
    }

    private static long greatestDivisor(long a, long b) {
        long big = Math.abs(a);
        long small = Math.abs(b);
        // Two longs need fewer than 100 steps.
        for (int step = 0; step < 200 && small != 0; step++) {
            long left = big % small;
            big = small;
            small = left;
        }
        return big;
    }

    private static long leastMultiple(long a, long b) {
        long divisor = greatestDivisor(a, b);
        return divisor == 0 ? 0 : Math.abs(a / divisor * b);
    }

    /** The fraction that was told last. */
    private static final class Fraction {
        private long top;
        private long bottom;

        Fraction() {
            top = 0;
            bottom = 1;
        }

        void tell(long above, long below) {
            long divisor = greatestDivisor(above, below);
            if (below == 0 || divisor == 0) {
                return;
            }
            long signed = below < 0 ? -divisor : divisor;
            top = above / signed;
            bottom = below / signed;
        }
    }

    /** The places of all ROWS are made once: a ROW made anew takes no more of the room. */
    private static final class Rows {
        private final int[][] readings;
        private final int[] sizes;

        Rows() {
            readings = new int[ROWS][MOST_READINGS];
            sizes = new int[ROWS];
            Arrays.fill(sizes, MISSING);
        }

        boolean isMissing(int r) {
            return sizes[r] == MISSING;
        }

        int sizeOf(int r) {
            return sizes[r];
        }

        void make(int r, int n) {
            Arrays.fill(readings[r], 0);
            sizes[r] = n;
        }

        void drop(int r) {
            sizes[r] = MISSING;
        }

        /** Asked by less, not by sum: from and n may be as great as an int gets. */
        boolean hasPlaces(int r, int from, int n) {
            return isBetween(from, 0, sizes[r]) && isBetween(n, 0, sizes[r] - from);
        }

        int readingAt(int r, int i) {
            return readings[r][i];
        }

        void put(int r, int i, int v) {
            readings[r][i] = v;
        }

        void carry(int r, int i, int to, int j, int n) {
            System.arraycopy(readings[r], i, readings[to], j, n);
        }

        int heldCount(int r) {
            int held = 0;
            for (int i = 0; i < sizes[r]; i++) {
                if (readings[r][i] != NONE) {
                    held++;
                }
            }
            return held;
        }

        int heldSum(int r, int from, int n) {
            int sum = 0;
            for (int i = from; i < from + n; i++) {
                if (readings[r][i] != NONE) {
                    sum += readings[r][i];
                }
            }
            return sum;
        }

        /** The READING at i and the one as far from the end. */
        int mirrorSum(int r, int i) {
            return readings[r][i] + readings[r][sizes[r] - 1 - i];
        }

        int longestLevelStart(int r, int w) {
            int start = 0;
            int longest = 0;
            for (int i = 0; i < sizes[r]; i++) {
                int length = levelLength(r, i, w);
                if (length > longest) {
                    longest = length;
                    start = i;
                }
            }
            return start;
        }

        /** How many READINGS from start on are not lost and lie no further apart than w. */
        int levelLength(int r, int start, int w) {
            int least = TOP_READING;
            int greatest = -TOP_READING;
            int length = 0;
            for (int i = start; i < sizes[r]; i++) {
                int v = readings[r][i];
                least = Math.min(least, v);
                greatest = Math.max(greatest, v);
                if (v == NONE || greatest - least > w) {
                    break;
                }
                length++;
            }
            return length;
        }

        int presentCount() {
            int present = 0;
            for (int r = 0; r < ROWS; r++) {
                if (sizes[r] != MISSING) {
                    present++;
                }
            }
            return present;
        }

        long digestOn(long before, int r) {
            long h = 31 * before + sizes[r];
            for (int i = 0; i < sizes[r]; i++) {
                h = 31 * h + readings[r][i];
            }
            return h;
        }
    }

    private static final class Tables {
        private final int[][] xs;
        private final int[][] ys;
        private final int[] sizes;

        Tables() {
            xs = new int[TABLES][MOST_POINTS];
            ys = new int[TABLES][MOST_POINTS];
            sizes = new int[TABLES];
        }

        int sizeOf(int table) {
            return sizes[table];
        }

        boolean hasX(int table, int x) {
            for (int i = 0; i < sizes[table]; i++) {
                if (xs[table][i] == x) {
                    return true;
                }
            }
            return false;
        }

        int add(int table, int x, int y) {
            int place = sizes[table];
            xs[table][place] = x;
            ys[table][place] = y;
            sizes[table] = place + 1;
            return place + 1;
        }

        int empty(int table) {
            int had = sizes[table];
            sizes[table] = 0;
            return had;
        }

        int pointCount() {
            int points = 0;
            for (int table = 0; table < TABLES; table++) {
                points += sizes[table];
            }
            return points;
        }

        /** A lower number that serves THE CURVE at every x. */
        long commonLower(int table) {
            long share = 1;
            for (int i = 0; i < sizes[table]; i++) {
                share = leastMultiple(share, productWithout(table, i, xs[table][i]));
            }
            return share;
        }

        /** The upper number of THE CURVE at x (as Lagrange has it), share being the lower one. */
        long worthAt(int table, int x, long share) {
            long worth = 0;
            for (int i = 0; i < sizes[table]; i++) {
                long own = productWithout(table, i, xs[table][i]);
                if (own != 0) {
                    worth += share / own * productWithout(table, i, x) * ys[table][i];
                }
            }
            return worth;
        }

        /** x less the x of each POINT but one, multiplied. */
        private long productWithout(int table, int left, int x) {
            long product = 1;
            for (int i = 0; i < sizes[table]; i++) {
                if (i != left) {
                    product *= x - xs[table][i];
                }
            }
            return product;
        }
    }

    private static final class Bulbs {
        private final int[] kinds;
        private final int[] tolerances;
        private int made;

        Bulbs() {
            kinds = new int[MOST_BULBS];
            tolerances = new int[MOST_BULBS];
            made = 0;
        }

        int size() {
            return made;
        }

        boolean has(int bulb) {
            return isBetween(bulb, 0, made - 1);
        }

        int add(int kind, int tolerance) {
            kinds[made] = kind;
            tolerances[made] = tolerance;
            made++;
            return made - 1;
        }

        int kindOf(int bulb) {
            return kinds[bulb];
        }

        int toleranceOf(int bulb) {
            return tolerances[bulb];
        }

        boolean isOf(int bulb, int kind) {
            return kinds[bulb] == kind || kinds[bulb] == MASTER && kind == COIL;
        }
    }

    /** A CERTIFICATE rests only on one told before it: every chain goes down in number and ends. */
    private static final class Certificates {
        static final int BULB = 0, BY = 1, BATH = 2, DAY = 3, END = 4, VOID = 5, REST = 6, OFFSET = 7;

        private final int[][] facts;
        private int made;

        Certificates() {
            facts = new int[MOST_CERTIFICATES][OFFSET + 1];
            made = 0;
        }

        int size() {
            return made;
        }

        boolean has(int c) {
            return isBetween(c, 0, made - 1);
        }

        int fact(int c, int what) {
            return facts[c][what];
        }

        int add(int bulb, int by, int bath, int day, int offset, int end, int rest) {
            int[] fact = facts[made];
            fact[BULB] = bulb;
            fact[BY] = by;
            fact[BATH] = bath;
            fact[DAY] = day;
            fact[END] = end;
            fact[VOID] = 0;
            fact[REST] = rest;
            fact[OFFSET] = offset;
            made++;
            return made - 1;
        }

        /** The last of a BULB, not VOID, not of a later day, that was told before number c. */
        int lastUntil(int bulb, int day, int c) {
            for (int i = Math.min(c, made) - 1; i >= 0; i--) {
                if (facts[i][BULB] == bulb && facts[i][VOID] == 0 && facts[i][DAY] <= day) {
                    return i;
                }
            }
            return NONE;
        }

        int latestOf(int bulb) {
            return lastUntil(bulb, LAST_DAY, made);
        }

        int countOf(int what, int worth, boolean standingOnly) {
            int found = 0;
            for (int c = 0; c < made; c++) {
                if (facts[c][what] == worth && !(standingOnly && facts[c][VOID] == 1)) {
                    found++;
                }
            }
            return found;
        }

        int rise(int what, int from, int to) {
            return facts[to][what] - facts[from][what];
        }

        /** One pass is enough: what a CERTIFICATE rests on comes before it. */
        int makeVoid(int bath, int firstDay, int lastDay) {
            int fallen = 0;
            for (int c = 0; c < made; c++) {
                boolean inIt = facts[c][BATH] == bath && isBetween(facts[c][DAY], firstDay, lastDay);
                if (facts[c][VOID] == 0 && (inIt || restsOnVoid(c))) {
                    facts[c][VOID] = 1;
                    fallen++;
                }
            }
            return fallen;
        }

        private boolean restsOnVoid(int c) {
            int rest = facts[c][REST];
            return has(rest) && facts[rest][VOID] == 1;
        }

        int chainLength(int c) {
            int length = 0;
            int at = c;
            for (int step = 0; step < MOST_CERTIFICATES && has(at); step++) {
                length++;
                at = facts[at][REST];
            }
            return length;
        }

        long squaredEnds(int c) {
            long sum = 0;
            int at = c;
            for (int step = 0; step < MOST_CERTIFICATES && has(at); step++) {
                long end = facts[at][END];
                sum += end * end;
                at = facts[at][REST];
            }
            return sum;
        }

        /** How many rest on base, at whatever depth. */
        int countOver(int base) {
            int found = 0;
            for (int c = base + 1; c < made; c++) {
                if (isOver(c, base)) {
                    found++;
                }
            }
            return found;
        }

        private boolean isOver(int c, int base) {
            int at = facts[c][REST];
            for (int step = 0; step < MOST_CERTIFICATES && has(at); step++) {
                if (at == base) {
                    return true;
                }
                at = facts[at][REST];
            }
            return false;
        }

        /** How many that are not VOID rest on any of a BULB's, at whatever depth. */
        int countOverBulb(int bulb) {
            int found = 0;
            for (int c = 0; c < made; c++) {
                if (facts[c][VOID] == 0 && isOverBulb(c, bulb)) {
                    found++;
                }
            }
            return found;
        }

        private boolean isOverBulb(int c, int bulb) {
            int at = facts[c][REST];
            for (int step = 0; step < MOST_CERTIFICATES && has(at); step++) {
                if (facts[at][BULB] == bulb) {
                    return true;
                }
                at = facts[at][REST];
            }
            return false;
        }
    }

    private static final class Round {
        private final int[][] differences;
        private final int[][] ends;

        Round() {
            differences = new int[LABS][LABS];
            ends = new int[LABS][LABS];
            for (int a = 0; a < LABS; a++) {
                Arrays.fill(ends[a], UNTOLD);
            }
        }

        /** Kept both ways round, so that a ring can be gone round either way. */
        void put(int a, int b, int v, int end) {
            differences[a][b] = v;
            differences[b][a] = -v;
            ends[a][b] = end;
            ends[b][a] = end;
        }

        boolean isKnown(int a, int b, int c) {
            return ends[a][b] != UNTOLD && ends[b][c] != UNTOLD && ends[c][a] != UNTOLD;
        }

        int gap(int a, int b, int c) {
            return differences[a][b] + differences[b][c] + differences[c][a];
        }

        boolean isShut(int a, int b, int c) {
            return Math.abs(gap(a, b, c)) <= ends[a][b] + ends[b][c] + ends[c][a];
        }
    }
}
