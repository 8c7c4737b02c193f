import java.math.BigInteger;

/** Promises 1 and 30 to 36, and the Terms on refusals and fractions: a new object, and what is told. */
public final class ToldTest {
    private static final int NONE = BathBook.NONE;
    private static final int NOTHING = 1, BEYOND = 2, UNLIKE = 3, NOUGHT = 4, SIZE = 5;
    private static final int LEAST = Integer.MIN_VALUE, GREATEST = Integer.MAX_VALUE;

    static void all(Promises p) {
        terms(p);
        p.holds(1, "No ROWS, BULBS, CERTIFICATES", ToldTest::newHasNothing);
        p.holds(1, "TABLES without POINTS", ToldTest::newTablesAreEmpty);
        p.holds(30, "What the latest lay(), mean(), plateau(), offset(), whole(), closes()", ToldTest::askedOfEach);
        p.holds(30, "that was not refused (nor NONE) told", ToldTest::askedStays);
        p.holds(30, "0 before", check -> check.due("asked()", new BathBook().asked(), 0));
        p.holds(31, "The upper number of the fraction that was told last", ToldTest::fractionOfEach);
        p.holds(31, "0 before", check -> check.due("upper()", new BathBook().upper(), 0));
        p.holds(32, "Its lower number", ToldTest::fractionStays);
        p.holds(32, "1 before", check -> check.due("lower()", new BathBook().lower(), 1));
        p.holds(33, "0 ROWS that are there, 1 POINTS in all, 2 BULBS, 3 CERTIFICATES, 4 VOID ones", ToldTest::counts);
        p.holds(33, "BAD", ToldTest::countBad);
        p.holds(34, "The latest FINDING", ToldTest::findingIsLatest);
        p.holds(34, "(0 before any)", ToldTest::findingBeforeAny);
        p.holds(35, "How often a FINDING (1 .. 5) was answered", ToldTest::findingsCount);
        p.holds(35, "BAD", ToldTest::findingsBad);
        p.holds(36, "h = 17; then h = 31 h + v for each v: count() 0 to 4", ToldTest::digestOfNew);
        p.holds(36, "of each BULB told() 0 to 4; of each CERTIFICATE certificate() 0 to 6 and its OFFSET",
            ToldTest::digestOfBulbs);
        p.holds(36, "of each ROW its size (-1: missing) and READINGS", ToldTest::digestOfRows);
        p.holds(36, "h = 31 h + v", ToldTest::digestWraps);
    }

    private static void terms(Promises p) {
        p.terms("the first of these that fits, in this order: BAD -1 (a number that is none, or not as told), FULL -2",
            ToldTest::badAheadOfFull);
        p.terms("FULL -2, STATE -4 (not now)", ToldTest::fullAheadOfState);
        p.terms("BAD -1 (a number that is none, or not as told)", ToldTest::badAheadOfState);
        p.terms("FINDING -3 (finding() tells which)", ToldTest::badAheadOfFinding);
        p.terms("NONE -9", ToldTest::noneIsNoRefusal);
        p.terms("What is refused changes nothing but finding(), findings()", ToldTest::refusedChangesNothing);
        p.terms("FINDINGS: 1 NOTHING (a ROW that is missing)", check -> finds(check, NOTHING, 3));
        p.terms("2 BEYOND (a place that there is not)", check -> finds(check, BEYOND, 2));
        p.terms("3 UNLIKE (a BULB of another KIND)", check -> finds(check, UNLIKE, 2));
        p.terms("4 NOUGHT (shared among none)", check -> finds(check, NOUGHT, 2));
        p.terms("5 SIZE (fewer than none)", check -> finds(check, SIZE, 2));
        p.terms("in lowest terms", ToldTest::lowestTerms);
        p.terms("the lower number above 0 (0 by 1)", ToldTest::lowerAboveNought);
    }

    // ---- Terms

    private static BathBook full() {
        BathBook x = Books.busy();
        for (int i = 5; i < 16; i++) {
            x.bulb(0, 0);
        }
        for (int i = 5; i < 40; i++) {
            x.certify(0, NONE, 0, 0, 0, 0);
        }
        return x;
    }

    private static void badAheadOfFull(Check check) {
        Check.Given full = check.given(ToldTest::full);
        full.full("bulb(0, 0)", b -> b.bulb(0, 0));
        full.bad("bulb(4, 0)", b -> b.bulb(4, 0));
        full.full("point(2, 2, 0)", b -> b.point(2, 2, 0));
        full.bad("point(2, 3, 0)", b -> b.point(2, 3, 0));
        full.full("certify(0, NONE, 0, 0, 0, 0)", b -> b.certify(0, NONE, 0, 0, 0, 0));
        full.bad("certify(0, NONE, 0, 0, 0, -1)", b -> b.certify(0, NONE, 0, 0, 0, -1));
    }

    private static void fullAheadOfState(Check check) {
        check.given(Books::busy).state("certify(0, 4, 0, 0, 0, 0)", b -> b.certify(0, 4, 0, 0, 0, 0));
        check.given(ToldTest::full).full("certify(0, 4, 0, 0, 0, 0)", b -> b.certify(0, 4, 0, 0, 0, 0));
    }

    private static void badAheadOfState(Check check) {
        Check.Given busy = check.given(Books::busy);
        busy.state("curve(3, 0)", b -> b.curve(3, 0));
        busy.bad("curve(3, 21)", b -> b.curve(3, 21));
        busy.state("apart(3, 0, 0, 0)", b -> b.apart(3, 0, 0, 0));
        busy.bad("apart(3, 0, 1, 0)", b -> b.apart(3, 0, 1, 0));
        busy.state("certify(0, 4, 0, 0, 0, 0)", b -> b.certify(0, 4, 0, 0, 0, 0));
        busy.bad("certify(0, 4, 0, 0, 10001, 0)", b -> b.certify(0, 4, 0, 0, 10001, 0));
        busy.state("closes(3, 4, 5)", b -> b.closes(3, 4, 5));
        busy.bad("closes(3, 4, 4)", b -> b.closes(3, 4, 4));
    }

    private static void badAheadOfFinding(Check check) {
        Check.Given busy = check.given(Books::busy);
        busy.bad("row(6, -1)", b -> b.row(6, -1));
        busy.bad("lay(3, 0, 100001)", b -> b.lay(3, 0, 100001));
        busy.bad("lay(0, 4, 100001)", b -> b.lay(0, 4, 100001));
        busy.bad("copy(3, 0, 6, 0, -1)", b -> b.copy(3, 0, 6, 0, -1));
        busy.bad("plateau(3, -1, 1)", b -> b.plateau(3, -1, 1));
        busy.bad("mark(0, 0)", b -> b.mark(0, 0));
        busy.bad("stem(0, 0, 1001, 0, 0)", b -> b.stem(0, 0, 1001, 0, 0));
        busy.bad("currents(0, 0, 101, 0, 101)", b -> b.currents(0, 0, 101, 0, 101));
    }

    private static void noneIsNoRefusal(Check check) {
        check.due("NONE", BathBook.NONE, -9);
        Check.Given busy = check.given(Books::busy);
        busy.none("told(4, 4)", b -> b.told(4, 4));
        busy.none("certificate(0, 1)", b -> b.certificate(0, 1));
        busy.none("certificate(0, 6)", b -> b.certificate(0, 6));
        busy.none("plateau(0, 0, 2)", b -> b.plateau(0, 0, 2));
        busy.none("compare(2, 19)", b -> b.compare(2, 19));
    }

    /** One refusal of each call that has any, by each of its answers, on a book with something of everything. */
    private static void refusedChangesNothing(Check check) {
        Check.Given busy = check.given(Books::busy);
        refusedWithoutFinding(busy);
        busy.finds(SIZE, "row(0, -1)", b -> b.row(0, -1));
        busy.finds(NOTHING, "lay(3, 0, 1)", b -> b.lay(3, 0, 1));
        busy.finds(BEYOND, "lay(0, 4, 1)", b -> b.lay(0, 4, 1));
        busy.finds(NOTHING, "tear(3)", b -> b.tear(3));
        busy.finds(SIZE, "copy(2, 0, 0, 0, -1)", b -> b.copy(2, 0, 0, 0, -1));
        busy.finds(NOTHING, "copy(2, 0, 3, 0, 1)", b -> b.copy(2, 0, 3, 0, 1));
        busy.finds(BEYOND, "copy(2, 0, 0, 0, 5)", b -> b.copy(2, 0, 0, 0, 5));
        busy.finds(NOUGHT, "mean(1)", b -> b.mean(1));
        busy.finds(UNLIKE, "mark(0, 3)", b -> b.mark(0, 3));
        busy.finds(UNLIKE, "stem(3, 1, 1, 1, 0)", b -> b.stem(3, 1, 1, 1, 0));
        busy.finds(NOUGHT, "currents(3, 1, 2, 3, 2)", b -> b.currents(3, 1, 2, 3, 2));
        busy.finds(SIZE, "compare(0, 0)", b -> b.compare(0, 0));
    }

    private static void refusedWithoutFinding(Check.Given busy) {
        busy.bad("row(0, 41)", b -> b.row(0, 41));
        busy.bad("clear(4)", b -> b.clear(4));
        busy.bad("point(0, 3, 5)", b -> b.point(0, 3, 5));
        busy.full("point(2, 9, 5)", b -> b.point(2, 9, 5));
        busy.bad("curve(0, 21)", b -> b.curve(0, 21));
        busy.state("curve(3, 1)", b -> b.curve(3, 1));
        busy.state("apart(0, 3, 0, 9)", b -> b.apart(0, 3, 0, 9));
        busy.bad("certify(3, 3, 0, 0, 0, 0)", b -> b.certify(3, 3, 0, 0, 0, 0));
        busy.state("certify(3, 4, 0, 99, 0, 0)", b -> b.certify(3, 4, 0, 99, 0, 0));
        busy.bad("offset(5)", b -> b.offset(5));
        busy.bad("whole(5)", b -> b.whole(5));
        busy.bad("wrong(0, 11, 10)", b -> b.wrong(0, 11, 10));
        busy.state("passes(4)", b -> b.passes(4));
        busy.state("drift(3)", b -> b.drift(3));
        busy.bad("lab(0, 1, 10001, 0)", b -> b.lab(0, 1, 10001, 0));
        busy.state("closes(2, 3, 4)", b -> b.closes(2, 3, 4));
        busy.bad("count(5)", b -> b.count(5));
        busy.bad("findings(6)", b -> b.findings(6));
    }

    private static int findingOf(int which, BathBook x, int way) {
        switch (which) {
            case NOTHING: return way == 0 ? x.lay(3, 0, 0) : way == 1 ? x.compare(4, 0) : x.copy(3, 0, 0, 0, 0);
            case BEYOND: return way == 0 ? x.lay(0, 4, 0) : x.copy(0, 4, 0, 0, 1);
            case UNLIKE: return way == 0 ? x.mark(1, 2) : x.stem(2, 0, 0, 0, 0);
            case NOUGHT: return way == 0 ? x.mean(1) : x.currents(2, 0, 5, 0, 5);
            default: return way == 0 ? x.row(5, -1) : x.compare(1, 0);
        }
    }

    private static void finds(Check check, int which, int ways) {
        Check.Given busy = check.given(Books::busy);
        for (int way = 0; way < ways; way++) {
            final int by = way;
            busy.finds(which, "way " + way, b -> findingOf(which, b, by));
        }
    }

    private static void lowestTerms(Check check) {
        BathBook x = Books.ofEachKind();
        x.currents(2, 0, 2, 30, 4);
        check.fraction("currents -120 by 12", x, -10, 1);
        x.stem(1, 2, 0, 0, 0);
        check.fraction("stem 200000 by 100000", x, 2, 1);
        Books.fillRow(x, 0, 0, 3, 3, 0);
        x.compare(0, 0);
        check.fraction("compare 6 by 2", x, 3, 1);
        x.plateau(0, 3, 4);
        check.fraction("plateau 6 by 4", x, 3, 2);
        Books.fillTable(x, 0, 0, 0, 12, 9);
        x.curve(0, 8);
        check.fraction("curve 72 by 12", x, 6, 1);
        Books.fillTable(x, 1, 0, 0);
        x.apart(0, 1, 0, 2);
        check.fraction("apart 18 by 12", x, 3, 2);
        x.certify(0, NONE, 0, 0, 0, 0);
        x.certify(0, NONE, 0, 100, 10, 0);
        x.drift(0);
        check.fraction("drift 10 by 100", x, 1, 10);
    }

    private static void lowerAboveNought(Check check) {
        BathBook x = Books.ofEachKind();
        x.currents(2, 1, 3, 0, 2);
        check.fraction("currents 4 by -5", x, -4, 5);
        x.currents(2, 0, 3, 1, 2);
        check.fraction("currents -9 by -5", x, 9, 5);
        x.currents(2, 0, 3, 0, 2);
        check.fraction("currents 0 by -5", x, 0, 1);
        x.certify(0, NONE, 0, 10, 5, 0);
        x.certify(0, NONE, 0, 4, 9, 0);
        x.drift(0);
        check.fraction("drift 4 by -6", x, -2, 3);
        x.certify(0, NONE, 0, 1, 9, 0);
        x.drift(0);
        check.fraction("drift 0 by -3", x, 0, 1);
        Books.fillTable(x, 0, 5, 1, 2, 0);
        x.curve(0, 3);
        check.fraction("curve falling in x", x, 1, 3);
        x.curve(0, 1);
        check.fraction("curve below 0", x, -1, 3);
        x.curve(0, 2);
        check.fraction("curve 0", x, 0, 1);
    }

    // ---- promise 1

    private static void newHasNothing(Check check) {
        BathBook used = Books.busy();
        BathBook x = new BathBook();
        for (int what = 0; what < 5; what++) {
            check.due("count(" + what + ")", x.count(what), 0);
        }
        for (int r = 0; r < 6; r++) {
            check.due("tear(" + r + ")", x.tear(r), BathBook.FINDING);
        }
        check.due("told(0, 0)", x.told(0, 0), BathBook.BAD);
        check.due("certificate(0, 0)", x.certificate(0, 0), BathBook.BAD);
        check.due("open()", x.open(), 0);
        check.due("the other one stays", used.digest(), Books.busy().digest());
    }

    private static void newTablesAreEmpty(Check check) {
        BathBook x = new BathBook();
        for (int table = 0; table < 4; table++) {
            check.due("curve(" + table + ", 0)", x.curve(table, 0), BathBook.STATE);
            check.due("clear(" + table + ")", x.clear(table), 0);
        }
        check.due("count(1)", x.count(1), 0);
    }

    // ---- promises 30 to 32

    private static void askedOfEach(Check check) {
        BathBook x = Books.busy();
        check.due("asked() of offset", x.asked(), 6);
        x.lay(0, 3, 7);
        check.due("asked() of lay", x.asked(), 8);
        x.mean(0);
        check.due("asked() of mean", x.asked(), 1);
        x.plateau(2, 0, 1);
        check.due("asked() of plateau", x.asked(), 40);
        x.whole(1);
        check.due("asked() of whole", x.asked(), 20);
        x.closes(2, 1, 0);
        check.due("asked() of closes", x.asked(), -1);
        x.lay(2, 0, 7);
        check.due("asked() of lay, 0", x.asked(), 0);
        x.offset(1);
        check.due("asked() of offset", x.asked(), -3);
        check.due("asked() twice", x.asked(), -3);
    }

    private static void askedStays(Check check) {
        BathBook x = Books.busy();
        int[] others = {
            x.lay(0, 4, 1), x.mean(1), x.plateau(3, 0, 1), x.plateau(0, 0, 2), x.offset(5), x.whole(-1),
            x.closes(3, 4, 5), x.closes(0, 0, 1), x.row(4, 4), x.copy(2, 0, 4, 0, 2), x.tear(4), x.point(3, 1, 1),
            x.curve(3, 0), x.apart(0, 3, 0, 5), x.clear(3), x.bulb(2, 2), x.told(0, 1), x.mark(1, 1),
            x.stem(1, 5, 5, 5, 0), x.currents(2, 4, 1, 5, 2), x.compare(2, 3), x.certify(4, NONE, 0, 0, 4, 4),
            x.certificate(0, 3), x.passes(0), x.certify(4, NONE, 0, 9, 5, 4), x.drift(4), x.due(4), x.resting(0),
            x.lab(4, 5, 5, 5), x.open(), x.wrong(7, 0, 9), x.count(2), x.finding(), x.findings(1)
        };
        check.due("calls that tell nothing by asked()", others.length, 34);
        check.due("asked()", x.asked(), 6);
    }

    private static void fractionOfEach(Check check) {
        BathBook x = Books.busy();
        check.fraction("of currents", x, -5, 3);
        x.lay(2, 0, 9);
        x.compare(2, 0);
        check.fraction("of compare", x, -9, 2);
        x.plateau(2, 9, 40);
        check.fraction("of plateau", x, 9, 40);
        x.curve(0, 1);
        check.fraction("of curve", x, 4, 3);
        x.apart(0, 1, 0, 1);
        check.fraction("of apart", x, 16, 3);
        x.stem(1, 0, 1, 0, 5);
        check.fraction("of stem", x, -1, 1250);
        x.certify(1, NONE, 0, 37, 8, 0);
        x.drift(1);
        check.fraction("of drift", x, 3, 7);
        check.fraction("twice", x, 3, 7);
    }

    private static void fractionStays(Check check) {
        BathBook x = Books.busy();
        int[] others = {
            x.plateau(3, 0, 1), x.plateau(0, 0, 2), x.curve(3, 0), x.curve(0, 21), x.apart(0, 3, 0, 5),
            x.apart(0, 1, 1, 0), x.stem(0, 1, 1, 1, 1), x.stem(1, 1, -1, 1, 1), x.currents(2, 4, 2, 5, 2),
            x.currents(1, 4, 1, 5, 2), x.compare(2, 19), x.compare(0, 0), x.compare(3, 0), x.drift(3), x.drift(9),
            x.lay(0, 0, 5), x.mean(0), x.offset(0), x.whole(0), x.closes(0, 1, 2), x.certify(1, NONE, 0, 37, 8, 0),
            x.due(1), x.passes(1), x.resting(0), x.wrong(7, 0, 9), x.row(4, 4), x.tear(4), x.point(3, 1, 1), x.open()
        };
        check.due("calls that tell no fraction", others.length, 29);
        check.fraction("as before", x, -5, 3);
    }

    // ---- promises 33 to 35

    private static void counts(Check check) {
        BathBook x = Books.busy();
        int[] want = {3, 7, 5, 5, 1};
        for (int what = 0; what < 5; what++) {
            check.due("count(" + what + ")", x.count(what), want[what]);
        }
        BathBook full = full();
        for (int r = 0; r < 6; r++) {
            full.row(r, 0);
        }
        for (int i = 0; i < 16; i++) {
            full.point(i / 4, 20 - i, 0);
        }
        full.wrong(0, 0, 100000);
        int[] most = {6, 16, 16, 40, 40};
        for (int what = 0; what < 5; what++) {
            check.due("count(" + what + ") of a full book", full.count(what), most[what]);
        }
    }

    private static void countBad(Check check) {
        Check.Given busy = check.given(Books::busy);
        for (int what : new int[] {-1, 5, NONE, LEAST, GREATEST}) {
            busy.bad("count(" + what + ")", b -> b.count(what));
        }
    }

    private static void findingIsLatest(Check check) {
        BathBook x = Books.busy();
        check.due("finding() at first", x.finding(), UNLIKE);
        for (int which : new int[] {SIZE, NOTHING, NOUGHT, BEYOND, UNLIKE, UNLIKE, NOTHING}) {
            findingOf(which, x, 0);
            check.due("finding() after " + which, x.finding(), which);
        }
        x.row(6, 0);
        x.curve(3, 0);
        x.point(2, 9, 9);
        x.compare(2, 19);
        x.row(0, 3);
        check.due("finding() after BAD, STATE, FULL, NONE and one that was not refused", x.finding(), NOTHING);
    }

    private static void findingBeforeAny(Check check) {
        BathBook x = new BathBook();
        check.due("finding() of a new book", x.finding(), 0);
        x.row(6, 0);
        x.curve(0, 0);
        x.row(0, 0);
        x.plateau(0, 0, 1);
        check.due("finding() after other answers", x.finding(), 0);
        x.tear(1);
        check.due("finding() after one", x.finding(), NOTHING);
    }

    private static void findingsCount(Check check) {
        BathBook x = new BathBook();
        x.row(0, 4);
        x.row(1, 0);
        for (int kind = 0; kind < 4; kind++) {
            x.bulb(kind, 0);
        }
        for (int which = 1; which <= 5; which++) {
            check.due("findings(" + which + ") before", x.findings(which), 0);
            for (int times = 0; times < which; times++) {
                findingOf(which, x, times % 2);
            }
        }
        for (int which = 1; which <= 5; which++) {
            check.due("findings(" + which + ")", x.findings(which), which);
        }
        for (int again = 5; again < 300; again++) {
            x.row(0, -1);
        }
        check.due("findings(5) after many", x.findings(5), 300);
        check.due("findings(4) after many", x.findings(4), 4);
    }

    private static void findingsBad(Check check) {
        Check.Given busy = check.given(Books::busy);
        for (int f : new int[] {0, 6, -1, NONE, LEAST, GREATEST}) {
            busy.bad("findings(" + f + ")", b -> b.findings(f));
        }
    }

    // ---- promise 36

    /** In numbers without an end, cut to a long only at last. */
    private static long digestOf(long... worths) {
        BigInteger h = BigInteger.valueOf(17);
        for (long v : worths) {
            h = h.multiply(BigInteger.valueOf(31)).add(BigInteger.valueOf(v));
        }
        return h.longValue();
    }

    private static void digestOfNew(Check check) {
        check.due("digest() of a new book", new BathBook().digest(), digestOf(0, 0, 0, 0, 0, -1, -1, -1, -1, -1, -1));
        BathBook x = new BathBook();
        x.point(2, 1, 1);
        check.due("digest() with a POINT", x.digest(), digestOf(0, 1, 0, 0, 0, -1, -1, -1, -1, -1, -1));
        check.due("digest() twice", x.digest(), digestOf(0, 1, 0, 0, 0, -1, -1, -1, -1, -1, -1));
    }

    private static void digestOfBulbs(Check check) {
        BathBook x = new BathBook();
        x.bulb(3, 40);
        x.bulb(1, 50);
        x.certify(0, NONE, 6, 10, -8, 3);
        x.certify(1, 0, 5, 11, 9, 2);
        x.wrong(5, 11, 11);
        check.due("digest()", x.digest(), digestOf(
            0, 0, 2, 2, 1,
            3, 40, 1, 0, 0,
            1, 50, 1, 1, NONE,
            0, NONE, 6, 10, 3, 0, NONE, -8,
            1, 0, 5, 11, 2, 1, 0, 9,
            -1, -1, -1, -1, -1, -1));
    }

    private static void digestOfRows(Check check) {
        BathBook x = new BathBook();
        x.row(1, 2);
        x.lay(1, 0, -7);
        x.lay(1, 1, NONE);
        x.row(4, 0);
        x.row(5, 3);
        x.lay(5, 2, 100000);
        x.row(5, 1);
        check.due("digest()", x.digest(), digestOf(3, 0, 0, 0, 0, -1, 2, -7, NONE, -1, -1, 0, 1, 0));
        x.tear(4);
        check.due("digest() without ROW 4", x.digest(), digestOf(2, 0, 0, 0, 0, -1, 2, -7, NONE, -1, -1, -1, 1, 0));
    }

    private static void digestWraps(Check check) {
        BathBook x = new BathBook();
        long[] worths = new long[5 + 6 * 41];
        worths[0] = 6;
        int at = 5;
        for (int r = 0; r < 6; r++) {
            x.row(r, 40);
            worths[at++] = 40;
            for (int i = 0; i < 40; i++) {
                int v = (i % 2 == 0 ? -100000 : 100000) + i * r;
                v = Math.max(-100000, Math.min(100000, v));
                x.lay(r, i, v);
                worths[at++] = v;
            }
        }
        check.due("digest() of six full ROWS", x.digest(), digestOf(worths));
    }

    public static void main(String[] args) {
        Promises p = Promises.tested();
        all(p);
        p.end();
    }
}
