/** Promises 2 to 7 and 17, and the Terms on ROWS: their READINGS, means, plateaus and comparisons. */
public final class RowsTest {
    private static final int LOST = BathBook.NONE;
    private static final int NOTHING = 1, BEYOND = 2, NOUGHT = 4, SIZE = 5;
    private static final int LEAST = Integer.MIN_VALUE, GREATEST = Integer.MAX_VALUE;
    private static final int[] NO_ROWS = {-1, 6, LOST, LEAST, GREATEST};

    static void all(Promises p) {
        terms(p);
        p.holds(2, "A ROW is there with n READINGS 0: n", RowsTest::rowIsThere);
        p.holds(2, "BAD: also n above 40", RowsTest::rowBad);
        p.holds(2, "SIZE", RowsTest::rowSize);
        p.holds(3, "A READING is v (NONE: lost): what it was, told by asked(): 1", RowsTest::layTellsWhatItWas);
        p.holds(3, "BAD", RowsTest::layBad);
        p.holds(3, "NOTHING", RowsTest::layNothing);
        p.holds(3, "BEYOND", RowsTest::layBeyond);
        p.holds(4, "A ROW is missing: 1", RowsTest::tearMakesMissing);
        p.holds(4, "BAD", RowsTest::tearBad);
        p.holds(4, "NOTHING", RowsTest::tearNothing);
        p.holds(5, "come to those of another one", RowsTest::copyToAnother);
        p.holds(5, "(perhaps itself) from one on, as if taken ahead: 1", RowsTest::copyToItself);
        p.holds(5, "n READINGS of a ROW", RowsTest::copyNoneAndAll);
        p.holds(5, "BAD", RowsTest::copyBad);
        p.holds(5, "SIZE: n below 0", RowsTest::copySize);
        p.holds(5, "NOTHING: either", RowsTest::copyNothing);
        p.holds(5, "BEYOND: not so many there", RowsTest::copyBeyond);
        p.holds(6, "The mean of a ROW's READINGS that are not lost", RowsTest::meanLeavesLostOut);
        p.holds(6, "cut, told by asked(): 1", RowsTest::meanIsCut);
        p.holds(6, "BAD", RowsTest::meanBad);
        p.holds(6, "NOTHING", RowsTest::meanNothing);
        p.holds(6, "NOUGHT", RowsTest::meanNought);
        p.holds(7, "THE PLATEAU (w 0 .. 100000, m 1 .. 40): where it begins", RowsTest::plateauWidestAndLongest);
        p.holds(7, "its mean by upper(), lower(), how long it is by asked()", RowsTest::plateauTells);
        p.holds(7, "NONE: none", RowsTest::plateauNone);
        p.holds(7, "BAD", RowsTest::plateauBad);
        p.holds(7, "NOTHING", RowsTest::plateauNothing);
        p.holds(17, "OTHER i of a COMPARISON, told by upper(), lower(): 1", RowsTest::compareTells);
        p.holds(17, "NONE: none such", RowsTest::compareNone);
        p.holds(17, "BAD", RowsTest::compareBad);
        p.holds(17, "NOTHING", RowsTest::compareNothing);
        p.holds(17, "SIZE: not 2 k + 2 READINGS", RowsTest::compareSize);
        p.holds(17, "or a lost one", RowsTest::compareLost);
    }

    private static void terms(Promises p) {
        p.terms("ROWS 0 .. 5", RowsTest::rowNumbers);
        p.terms("rows of 0 to 40 READINGS", RowsTest::rowLengths);
        p.terms("(-100000 .. 100000, or NONE: lost; 0 at first)", RowsTest::readingWorths);
        p.terms("or missing (at first)", RowsTest::rowsMissingAtFirst);
        p.terms("a run of READINGS one behind the other, none lost", RowsTest::plateauEndsAtLost);
        p.terms("m at least", RowsTest::plateauLengthAtLeast);
        p.terms("the greatest less the least w at most", RowsTest::plateauWidthAtMost);
        p.terms("THE PLATEAU is the longest, of these the first", RowsTest::plateauLongestFirst);
        p.terms("its mean is a fraction", RowsTest::plateauMeans);
        p.terms("2 k + 2 of them (k 1 at least), none lost", RowsTest::comparisonLengths);
        p.terms("of the standard, then of k others, then of these the other way round", RowsTest::driftFallsOut);
        p.terms("OTHER i (0 .. k - 1)", RowsTest::otherNumbers);
        p.terms("the sum of its two less that of the standard's two, by 2 (a fraction)", RowsTest::otherWorths);
    }

    /** lay() with what stands there tells it and changes nothing. */
    private static void holds(Check check, String call, BathBook x, int r, int... readings) {
        long before = x.digest();
        for (int i = 0; i < readings.length; i++) {
            check.due(call + " lay " + i, x.lay(r, i, readings[i]), 1);
            check.due(call + " reading " + i, x.asked(), readings[i]);
        }
        check.due(call + " as before", x.digest(), before);
    }

    // ---- Terms

    private static void rowNumbers(Check check) {
        BathBook x = new BathBook();
        for (int r = 0; r < 6; r++) {
            check.due("row(" + r + ", 1)", x.row(r, 1), 1);
            check.due("count(0) after row " + r, x.count(0), r + 1);
            check.due("lay(" + r + ", 0, r)", x.lay(r, 0, r), 1);
        }
        for (int r = 0; r < 6; r++) {
            holds(check, "row " + r + " of its own", x, r, r);
        }
    }

    private static void rowLengths(Check check) {
        BathBook x = new BathBook();
        check.due("row(0, 0)", x.row(0, 0), 0);
        check.due("a ROW of none is there", x.count(0), 1);
        check.due("row(1, 40)", x.row(1, 40), 40);
        check.due("lay(1, 39, 5)", x.lay(1, 39, 5), 1);
        check.given(Books::busy).finds(BEYOND, "lay(2, 40, 5)", b -> b.lay(2, 40, 5));
    }

    private static void readingWorths(Check check) {
        BathBook x = Books.withRow(100000, -100000, -8, -10, LOST);
        holds(check, "the ends", x, 0, 100000, -100000, -8, -10, LOST);
        check.due("mean of -8 and -10, which are not lost", Books.withRow(-8, -10).mean(0), 1);
        check.given(() -> Books.withRow(LOST)).finds(NOUGHT, "mean of NONE, which is lost", b -> b.mean(0));
        BathBook made = new BathBook();
        made.row(0, 40);
        holds(check, "at first", made, 0, new int[40]);
    }

    private static void rowsMissingAtFirst(Check check) {
        for (int r = 0; r < 6; r++) {
            final int row = r;
            check.given(BathBook::new).finds(NOTHING, "tear(" + r + ") of a new book", b -> b.tear(row));
        }
    }

    private static void plateauIs(Check check, BathBook x, int[] widthAndLength, int start, int length) {
        int w = widthAndLength[0];
        int m = widthAndLength[1];
        String call = "plateau(0, " + w + ", " + m + ")";
        check.due(call, x.plateau(0, w, m), start);
        check.due(call + " asked()", x.asked(), length);
    }

    private static int[] of(int w, int m) {
        return new int[] {w, m};
    }

    private static void plateauEndsAtLost(Check check) {
        BathBook x = Books.withRow(5, 5, LOST, 5, 5, 5, LOST);
        plateauIs(check, x, of(0, 1), 3, 3);
        plateauIs(check, x, of(100000, 3), 3, 3);
        check.given(() -> Books.withRow(5, 5, LOST, 5, 5)).none("plateau over a lost one", b -> b.plateau(0, 0, 3));
        BathBook near = Books.withRow(-10, LOST, -8);
        plateauIs(check, near, of(100000, 1), 0, 1);
        BathBook behind = Books.withRow(LOST, 5, 90);
        plateauIs(check, behind, of(0, 1), 1, 1);
        BathBook apart = Books.withRow(1, 9, 1, 9, 1);
        plateauIs(check, apart, of(0, 1), 0, 1);
    }

    private static void plateauLengthAtLeast(Check check) {
        BathBook x = Books.withRow(1, 7, 7, 7, 1);
        plateauIs(check, x, of(0, 2), 1, 3);
        plateauIs(check, x, of(0, 3), 1, 3);
        check.given(() -> Books.withRow(1, 7, 7, 7, 1)).none("one too long", b -> b.plateau(0, 0, 4));
    }

    private static void plateauWidthAtMost(Check check) {
        BathBook x = Books.withRow(10, 13, 7, 10);
        plateauIs(check, x, of(6, 1), 0, 4);
        plateauIs(check, x, of(5, 1), 0, 2);
        plateauIs(check, x, of(2, 1), 0, 1);
        BathBook wide = Books.withRow(100000, -100000, 0, 100000);
        plateauIs(check, wide, of(100000, 1), 1, 2);
        plateauIs(check, wide, of(99999, 1), 0, 1);
        BathBook slow = Books.withRow(0, 1, 2, 3, 4);
        plateauIs(check, slow, of(1, 1), 0, 2);
        BathBook falling = Books.withRow(-1, -2, -3, -4);
        plateauIs(check, falling, of(2, 1), 0, 3);
    }

    private static void plateauLongestFirst(Check check) {
        plateauIs(check, Books.withRow(4, 4, 9, 9, 9, 4, 4), of(0, 1), 2, 3);
        plateauIs(check, Books.withRow(4, 4, 9, 9, 5), of(0, 2), 0, 2);
        plateauIs(check, Books.withRow(1, 5, 6, 9, 8, LOST, 1, 1), of(1, 2), 1, 2);
        plateauIs(check, Books.withRow(4, 5, 6, 7), of(2, 1), 0, 3);
        plateauIs(check, Books.withRow(9, 5, 6, 7, 5), of(2, 1), 1, 4);
    }

    private static void plateauMeanIs(Check check, long upper, long lower, int... readings) {
        BathBook x = Books.withRow(readings);
        check.due("plateau(0, 100000, 1)", x.plateau(0, 100000, 1), 0);
        check.fraction("mean of the plateau", x, upper, lower);
    }

    private static void plateauMeans(Check check) {
        plateauMeanIs(check, 1, 2, 0, 1);
        plateauMeanIs(check, -28, 3, -8, -10, -10);
        plateauMeanIs(check, -19, 2, -8, -10, -10, -10);
        plateauMeanIs(check, 0, 1, -7, 7);
        plateauMeanIs(check, 100000, 1, 100000, 100000, 100000);
    }

    private static void comparisonLengths(Check check) {
        for (int size = 0; size <= 40; size++) {
            final int n = size;
            BathBook x = new BathBook();
            x.row(0, n);
            if (n >= 4 && n % 2 == 0) {
                check.due("compare(0, 0) of " + n, x.compare(0, 0), 1);
            } else {
                check.due("compare(0, 0) of " + n, x.compare(0, 0), BathBook.FINDING);
                check.due("finding() of " + n, x.finding(), SIZE);
            }
        }
        for (int lost = 0; lost < 6; lost++) {
            BathBook x = Books.withRow(1, 2, 3, 4, 5, 6);
            x.lay(0, lost, LOST);
            check.due("compare(0, 0) with " + lost + " lost", x.compare(0, 0), BathBook.FINDING);
            check.due("finding() with " + lost + " lost", x.finding(), SIZE);
        }
    }

    private static void driftFallsOut(Check check) {
        int[] worth = {100, 103, 99, 120, 120, 99, 103, 100};
        for (int i = 0; i < worth.length; i++) {
            worth[i] += 7 * i;
        }
        BathBook x = Books.withRow(worth);
        int[] want = {3, -1, 20};
        for (int i = 0; i < want.length; i++) {
            check.due("compare drifting " + i, x.compare(0, i), 1);
            check.fraction("compare drifting " + i, x, want[i], 1);
        }
    }

    private static void otherNumbers(Check check) {
        BathBook x = new BathBook();
        x.row(0, 40);
        check.due("compare(0, 0) of 19", x.compare(0, 0), 1);
        check.due("compare(0, 18) of 19", x.compare(0, 18), 1);
        check.due("compare(0, 19) of 19", x.compare(0, 19), BathBook.NONE);
        x.row(0, 4);
        check.due("compare(0, 0) of 1", x.compare(0, 0), 1);
        check.due("compare(0, 1) of 1", x.compare(0, 1), BathBook.NONE);
    }

    private static void otherIs(Check check, long upper, long lower, int... readings) {
        BathBook x = Books.withRow(readings);
        check.due("compare(0, 0)", x.compare(0, 0), 1);
        check.fraction("compare(0, 0)", x, upper, lower);
    }

    private static void otherWorths(Check check) {
        otherIs(check, -9, 2, 5, 1, 1, 6);
        otherIs(check, 9, 2, 1, 5, 6, 1);
        otherIs(check, 0, 1, 3, 4, 2, 3);
        otherIs(check, 200000, 1, -100000, 100000, 100000, -100000);
        otherIs(check, -200000, 1, 100000, -100000, -100000, 100000);
    }

    // ---- promise 2

    private static void rowIsThere(Check check) {
        BathBook x = new BathBook();
        check.due("row(5, 40)", x.row(5, 40), 40);
        holds(check, "row(5, 40)", x, 5, new int[40]);
        x.lay(5, 1, 7);
        x.lay(5, 3, LOST);
        check.due("row(5, 2) anew", x.row(5, 2), 2);
        check.due("row(5, 5) anew", x.row(5, 5), 5);
        holds(check, "row anew", x, 5, 0, 0, 0, 0, 0);
        check.due("row(5, 0) anew", x.row(5, 0), 0);
        check.due("one ROW is there", x.count(0), 1);
        check.due("row tells nothing by asked()", new BathBook().row(0, 9) + x.asked(), 9);
    }

    private static void rowBad(Check check) {
        Check.Given busy = check.given(Books::busy);
        for (int r : NO_ROWS) {
            busy.bad("row(" + r + ", 1)", b -> b.row(r, 1));
        }
        for (int n : new int[] {41, 42, 100000, GREATEST}) {
            busy.bad("row(0, " + n + ")", b -> b.row(0, n));
            busy.bad("row(3, " + n + ") of a missing one", b -> b.row(3, n));
        }
    }

    private static void rowSize(Check check) {
        Check.Given busy = check.given(Books::busy);
        for (int n : new int[] {-1, -2, LOST, LEAST}) {
            busy.finds(SIZE, "row(0, " + n + ")", b -> b.row(0, n));
            busy.finds(SIZE, "row(3, " + n + ") of a missing one", b -> b.row(3, n));
        }
    }

    // ---- promise 3

    private static void layTellsWhatItWas(Check check) {
        BathBook x = new BathBook();
        x.row(0, 3);
        int[] laid = {100000, -100000, LOST, LOST, 4, 0};
        int was = 0;
        for (int v : laid) {
            check.due("lay(0, 2, " + v + ")", x.lay(0, 2, v), 1);
            check.due("lay(0, 2, " + v + ") asked()", x.asked(), was);
            was = v;
        }
        holds(check, "the others stay", x, 0, 0, 0, 0);
    }

    private static void layBad(Check check) {
        Check.Given busy = check.given(Books::busy);
        for (int r : NO_ROWS) {
            busy.bad("lay(" + r + ", 0, 0)", b -> b.lay(r, 0, 0));
        }
        for (int v : new int[] {-100001, 100001, LEAST, GREATEST}) {
            busy.bad("lay(0, 0, " + v + ")", b -> b.lay(0, 0, v));
        }
    }

    private static void layNothing(Check check) {
        Check.Given busy = check.given(Books::busy);
        busy.finds(NOTHING, "lay(3, 0, 0)", b -> b.lay(3, 0, 0));
        busy.finds(NOTHING, "lay(5, 99, LOST), ahead of BEYOND", b -> b.lay(5, 99, LOST));
    }

    private static void layBeyond(Check check) {
        Check.Given busy = check.given(Books::busy);
        for (int i : new int[] {4, 5, 40, -1, LEAST, GREATEST}) {
            busy.finds(BEYOND, "lay(0, " + i + ", 0)", b -> b.lay(0, i, 0));
        }
        busy.finds(BEYOND, "lay(1, 0, 0) of an empty ROW", b -> b.lay(1, 0, 0));
        BathBook x = Books.busy();
        check.due("lay(0, 3, 0), the last place", x.lay(0, 3, 0), 1);
        check.due("lay(0, 0, 0), the first place", x.lay(0, 0, 0), 1);
    }

    // ---- promise 4

    private static void tearMakesMissing(Check check) {
        BathBook x = Books.withRow(1, 2);
        x.row(5, 0);
        check.due("tear(0)", x.tear(0), 1);
        check.due("count(0)", x.count(0), 1);
        check.due("tear(5) of an empty ROW", x.tear(5), 1);
        check.due("count(0) again", x.count(0), 0);
        check.due("digest() as of a new book", x.digest(), new BathBook().digest());
        check.due("row(0, 2)", x.row(0, 2), 2);
        holds(check, "row after tear", x, 0, 0, 0);
    }

    private static void tearBad(Check check) {
        Check.Given busy = check.given(Books::busy);
        for (int r : NO_ROWS) {
            busy.bad("tear(" + r + ")", b -> b.tear(r));
        }
    }

    private static void tearNothing(Check check) {
        check.given(Books::busy).finds(NOTHING, "tear(5)", b -> b.tear(5));
        Check.Given torn = check.given(() -> {
            BathBook b = Books.busy();
            b.tear(0);
            return b;
        });
        torn.finds(NOTHING, "tear(0) again", b -> b.tear(0));
    }

    // ---- promise 5

    private static void copyToAnother(Check check) {
        BathBook x = Books.withRow(1, 2, LOST, 4, 5);
        Books.fillRow(x, 1, 11, 12, 13);
        check.due("copy(0, 2, 1, 1, 2)", x.copy(0, 2, 1, 1, 2), 1);
        holds(check, "the one", x, 0, 1, 2, LOST, 4, 5);
        holds(check, "the other", x, 1, 11, LOST, 4);
        check.due("copy(1, 0, 0, 0, 3), a whole ROW", x.copy(1, 0, 0, 0, 3), 1);
        holds(check, "the one", x, 0, 11, LOST, 4, 4, 5);
    }

    private static void copyToItself(Check check) {
        BathBook x = Books.withRow(1, 2, LOST, 4, 5);
        check.due("copy(0, 0, 0, 1, 4), on", x.copy(0, 0, 0, 1, 4), 1);
        holds(check, "on", x, 0, 1, 1, 2, LOST, 4);
        check.due("copy(0, 1, 0, 0, 4), back", x.copy(0, 1, 0, 0, 4), 1);
        holds(check, "back", x, 0, 1, 2, LOST, 4, 4);
        check.due("copy(0, 0, 0, 0, 5), where it is", x.copy(0, 0, 0, 0, 5), 1);
        holds(check, "where it is", x, 0, 1, 2, LOST, 4, 4);
    }

    private static void copyNoneAndAll(Check check) {
        BathBook x = Books.withRow(1, 2);
        x.row(1, 0);
        x.row(2, 40);
        x.row(3, 40);
        long before = x.digest();
        check.due("copy(0, 0, 0, 1, 0)", x.copy(0, 0, 0, 1, 0), 1);
        check.due("copy(0, 2, 1, 0, 0), just behind the last", x.copy(0, 2, 1, 0, 0), 1);
        check.due("copy(1, 0, 0, 2, 0), to just behind the last", x.copy(1, 0, 0, 2, 0), 1);
        check.due("none copied", x.digest(), before);
        for (int i = 0; i < 40; i++) {
            x.lay(2, i, 1000 + i);
        }
        check.due("copy(2, 0, 3, 0, 40)", x.copy(2, 0, 3, 0, 40), 1);
        check.due("lay(3, 39, 0)", x.lay(3, 39, 0), 1);
        check.due("the last came, too", x.asked(), 1039);
    }

    private static void copyBad(Check check) {
        Check.Given busy = check.given(Books::busy);
        for (int r : NO_ROWS) {
            busy.bad("copy(" + r + ", 0, 0, 0, 1)", b -> b.copy(r, 0, 0, 0, 1));
            busy.bad("copy(0, 0, " + r + ", 0, 1)", b -> b.copy(0, 0, r, 0, 1));
            busy.bad("copy(" + r + ", 9, 3, 9, -1), ahead of all", b -> b.copy(r, 9, 3, 9, -1));
        }
    }

    private static void copySize(Check check) {
        Check.Given busy = check.given(Books::busy);
        busy.finds(SIZE, "copy(0, 0, 2, 0, -1)", b -> b.copy(0, 0, 2, 0, -1));
        busy.finds(SIZE, "copy(0, 0, 2, 0, least)", b -> b.copy(0, 0, 2, 0, LEAST));
        busy.finds(SIZE, "copy(3, 0, 4, 0, -1), ahead of NOTHING", b -> b.copy(3, 0, 4, 0, -1));
        busy.finds(SIZE, "copy(0, 9, 2, 99, -1), ahead of BEYOND", b -> b.copy(0, 9, 2, 99, -1));
        busy.finds(SIZE, "copy(0, 3, 2, 39, -2)", b -> b.copy(0, 3, 2, 39, -2));
    }

    private static void copyNothing(Check check) {
        Check.Given busy = check.given(Books::busy);
        busy.finds(NOTHING, "copy(3, 0, 0, 0, 0)", b -> b.copy(3, 0, 0, 0, 0));
        busy.finds(NOTHING, "copy(0, 0, 3, 0, 0)", b -> b.copy(0, 0, 3, 0, 0));
        busy.finds(NOTHING, "copy(3, 0, 3, 0, 0)", b -> b.copy(3, 0, 3, 0, 0));
        busy.finds(NOTHING, "copy(3, 9, 0, 9, 50), ahead of BEYOND", b -> b.copy(3, 9, 0, 9, 50));
        busy.finds(NOTHING, "copy(0, 9, 3, 9, 50), ahead of BEYOND", b -> b.copy(0, 9, 3, 9, 50));
    }

    private static void copyBeyond(Check check) {
        Check.Given busy = check.given(Books::busy);
        busy.finds(BEYOND, "copy(0, 2, 2, 0, 3), too few to take", b -> b.copy(0, 2, 2, 0, 3));
        busy.finds(BEYOND, "copy(2, 0, 0, 2, 3), too few to lay", b -> b.copy(2, 0, 0, 2, 3));
        busy.finds(BEYOND, "copy(2, 0, 1, 0, 1), to an empty ROW", b -> b.copy(2, 0, 1, 0, 1));
        busy.finds(BEYOND, "copy(1, 0, 2, 0, 1), of an empty ROW", b -> b.copy(1, 0, 2, 0, 1));
        busy.finds(BEYOND, "copy(2, 0, 2, 0, 41)", b -> b.copy(2, 0, 2, 0, 41));
        busy.finds(BEYOND, "copy(0, 5, 2, 0, 0)", b -> b.copy(0, 5, 2, 0, 0));
        busy.finds(BEYOND, "copy(2, 0, 0, 5, 0)", b -> b.copy(2, 0, 0, 5, 0));
        for (int i : new int[] {-1, LEAST, GREATEST}) {
            busy.finds(BEYOND, "copy(0, " + i + ", 2, 0, 1)", b -> b.copy(0, i, 2, 0, 1));
            busy.finds(BEYOND, "copy(2, 0, 0, " + i + ", 1)", b -> b.copy(2, 0, 0, i, 1));
            busy.finds(BEYOND, "copy(2, " + i + ", 2, 0, 0)", b -> b.copy(2, i, 2, 0, 0));
            busy.finds(BEYOND, "copy(2, 0, 2, " + i + ", 0)", b -> b.copy(2, 0, 2, i, 0));
        }
        busy.finds(BEYOND, "copy(2, 1, 2, 1, greatest), a sum that wraps", b -> b.copy(2, 1, 2, 1, GREATEST));
        busy.finds(BEYOND, "copy(2, greatest, 2, greatest, greatest)",
            b -> b.copy(2, GREATEST, 2, GREATEST, GREATEST));
    }

    // ---- promise 6

    private static void meanIs(Check check, int want, int... readings) {
        BathBook x = Books.withRow(readings);
        x.point(0, 0, 3);
        x.curve(0, 0);
        check.due("mean(0)", x.mean(0), 1);
        check.due("mean(0) asked()", x.asked(), want);
        check.fraction("mean tells no fraction", x, 3, 1);
    }

    private static void meanLeavesLostOut(Check check) {
        meanIs(check, 6, LOST, 6, LOST);
        meanIs(check, 6, 4, LOST, 8);
        meanIs(check, -9, -8, -10);
        meanIs(check, 0, 0, LOST);
    }

    private static void meanIsCut(Check check) {
        meanIs(check, 1, 1, 2, 2);
        meanIs(check, -1, -1, -2, -2);
        meanIs(check, 0, 0, 0, -2);
        meanIs(check, 0, 1, 0);
        meanIs(check, 99999, 100000, 100000, 99999);
        int[] least = new int[40];
        java.util.Arrays.fill(least, -100000);
        meanIs(check, -100000, least);
        least[39] = -99999;
        meanIs(check, -99999, least);
    }

    private static void meanBad(Check check) {
        Check.Given busy = check.given(Books::busy);
        for (int r : NO_ROWS) {
            busy.bad("mean(" + r + ")", b -> b.mean(r));
        }
    }

    private static void meanNothing(Check check) {
        Check.Given busy = check.given(Books::busy);
        for (int r = 3; r < 6; r++) {
            final int row = r;
            busy.finds(NOTHING, "mean(" + r + ")", b -> b.mean(row));
        }
    }

    private static void meanNought(Check check) {
        check.given(Books::busy).finds(NOUGHT, "mean(1) of no READINGS", b -> b.mean(1));
        check.given(() -> Books.withRow(LOST, LOST)).finds(NOUGHT, "mean(0) of lost ones", b -> b.mean(0));
        meanIs(check, 0, 0);
    }

    // ---- promise 7

    private static void plateauWidestAndLongest(Check check) {
        BathBook x = new BathBook();
        x.row(0, 40);
        plateauIs(check, x, of(0, 1), 0, 40);
        plateauIs(check, x, of(0, 40), 0, 40);
        x.lay(0, 39, 100000);
        plateauIs(check, x, of(100000, 40), 0, 40);
        plateauIs(check, x, of(99999, 39), 0, 39);
        x.lay(0, 0, -1);
        plateauIs(check, x, of(100000, 1), 0, 39);
        plateauIs(check, x, of(0, 1), 1, 38);
        BathBook last = Books.withRow(1, 2, 3, 9, 9);
        plateauIs(check, last, of(0, 2), 3, 2);
    }

    private static void plateauTells(Check check) {
        BathBook x = Books.withRow(1, 50, 52, 51, LOST, 60);
        check.due("plateau(0, 2, 1)", x.plateau(0, 2, 1), 1);
        check.fraction("plateau(0, 2, 1)", x, 51, 1);
        check.due("plateau(0, 2, 1) asked()", x.asked(), 3);
        check.due("plateau(0, 1, 2)", x.plateau(0, 1, 2), 2);
        check.fraction("plateau(0, 1, 2)", x, 103, 2);
        check.due("plateau(0, 1, 2) asked()", x.asked(), 2);
    }

    private static void plateauNone(Check check) {
        Check.Given busy = check.given(Books::busy);
        busy.none("plateau(1, 100000, 1) of no READINGS", b -> b.plateau(1, 100000, 1));
        busy.none("plateau(0, 12, 3)", b -> b.plateau(0, 12, 3));
        busy.none("plateau(0, 100000, 40)", b -> b.plateau(0, 100000, 40));
        check.given(() -> Books.withRow(LOST, LOST)).none("of lost ones", b -> b.plateau(0, 100000, 1));
        check.given(() -> Books.withRow(1, 2, 1, 2)).none("too steep", b -> b.plateau(0, 0, 2));
    }

    private static void plateauBad(Check check) {
        Check.Given busy = check.given(Books::busy);
        for (int r : NO_ROWS) {
            busy.bad("plateau(" + r + ", 0, 1)", b -> b.plateau(r, 0, 1));
        }
        for (int w : new int[] {-1, 100001, LEAST, GREATEST}) {
            busy.bad("plateau(2, " + w + ", 1)", b -> b.plateau(2, w, 1));
            busy.bad("plateau(3, " + w + ", 1), ahead of NOTHING", b -> b.plateau(3, w, 1));
        }
        for (int m : new int[] {0, -1, 41, LEAST, GREATEST}) {
            busy.bad("plateau(2, 0, " + m + ")", b -> b.plateau(2, 0, m));
            busy.bad("plateau(3, 0, " + m + "), ahead of NOTHING", b -> b.plateau(3, 0, m));
        }
    }

    private static void plateauNothing(Check check) {
        Check.Given busy = check.given(Books::busy);
        busy.finds(NOTHING, "plateau(3, 0, 1)", b -> b.plateau(3, 0, 1));
        busy.finds(NOTHING, "plateau(5, 100000, 40)", b -> b.plateau(5, 100000, 40));
    }

    // ---- promise 17

    private static void compareTells(Check check) {
        BathBook x = Books.withRow(10, 21, 32, 35, 26, 13);
        check.due("compare(0, 0)", x.compare(0, 0), 1);
        check.fraction("compare(0, 0)", x, 12, 1);
        check.due("compare(0, 1)", x.compare(0, 1), 1);
        check.fraction("compare(0, 1)", x, 22, 1);
        check.due("compare tells nothing by asked()", x.asked(), 0);
    }

    private static void compareNone(Check check) {
        Check.Given of2 = check.given(() -> Books.withRow(10, 21, 32, 35, 26, 13));
        for (int i : new int[] {2, 3, 40, -1, LEAST, GREATEST}) {
            of2.none("compare(0, " + i + ")", b -> b.compare(0, i));
        }
    }

    private static void compareBad(Check check) {
        Check.Given busy = check.given(Books::busy);
        for (int r : NO_ROWS) {
            busy.bad("compare(" + r + ", 0)", b -> b.compare(r, 0));
        }
    }

    private static void compareNothing(Check check) {
        Check.Given busy = check.given(Books::busy);
        busy.finds(NOTHING, "compare(3, 0)", b -> b.compare(3, 0));
        busy.finds(NOTHING, "compare(5, -1)", b -> b.compare(5, -1));
    }

    private static void compareSize(Check check) {
        check.given(Books::busy).finds(SIZE, "compare(1, 0) of no READINGS", b -> b.compare(1, 0));
        for (int size : new int[] {1, 2, 3, 5, 7, 39}) {
            Check.Given given = check.given(() -> Books.withRow(new int[size]));
            given.finds(SIZE, "compare(0, 0) of " + size, b -> b.compare(0, 0));
            given.finds(SIZE, "compare(0, 40) of " + size + ", ahead of NONE", b -> b.compare(0, 40));
        }
    }

    private static void compareLost(Check check) {
        Check.Given busy = check.given(Books::busy);
        busy.finds(SIZE, "compare(0, 0)", b -> b.compare(0, 0));
        busy.finds(SIZE, "compare(0, 1), ahead of NONE", b -> b.compare(0, 1));
        for (int lost = 0; lost < 4; lost++) {
            int[] readings = {1, 2, 3, 4};
            readings[lost] = LOST;
            Check.Given given = check.given(() -> Books.withRow(readings));
            given.finds(SIZE, "compare(0, 0) with " + lost + " lost", b -> b.compare(0, 0));
        }
    }

    public static void main(String[] args) {
        Promises p = Promises.tested();
        all(p);
        p.end();
    }
}
