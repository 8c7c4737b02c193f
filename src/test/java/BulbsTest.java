/** Promises 12 to 16, and the Terms on BULBS: their KINDS, stems and currents. */
public final class BulbsTest {
    private static final int NONE = BathBook.NONE;
    private static final int UNLIKE = 3, NOUGHT = 4;
    private static final int LEAST = Integer.MIN_VALUE, GREATEST = Integer.MAX_VALUE;
    /** Of a busy book, which has five. */
    private static final int[] NO_BULBS = {-1, 5, 15, 16, NONE, LEAST, GREATEST};
    private static final int[] NO_READINGS = {-100001, 100001, LEAST, GREATEST};

    static void all(Promises p) {
        p.terms("BULBS 0, 1, .. (16 at most)", BulbsTest::bulbNumbers);
        p.terms("1 GLASS (a BULB: its stem may stand out), 2 COIL (a BULB: read with two currents)",
            BulbsTest::kindsThatAre);
        p.terms("each with a TOLERANCE (0 .. 10000)", BulbsTest::tolerances);
        p.terms("its READING gets n times (t less s) times 16, by 100000, more (a fraction)", BulbsTest::stemWorths);
        p.terms("(a j j less b i i) by (j j less i i)", BulbsTest::currentWorths);
        p.terms("a current j (1 .. 100 each)", BulbsTest::currentEnds);
        p.terms("NOUGHT if i is j", BulbsTest::currentsAlike);
        p.holds(12, "A BULB: its number", BulbsTest::bulbTellsNumber);
        p.holds(12, "BAD", BulbsTest::bulbBad);
        p.holds(12, "FULL", BulbsTest::bulbFull);
        p.holds(13, "0 its KIND, 1 TOLERANCE", BulbsTest::toldKindAndTolerance);
        p.holds(13, "2 how many CERTIFICATES it has, 3 how many of them are VOID", BulbsTest::toldCounts);
        p.holds(13, "4 THE LATEST (NONE)", BulbsTest::toldLatest);
        p.holds(13, "BAD", BulbsTest::toldBad);
        p.holds(14, "a GLASS its TOLERANCE", BulbsTest::markOfGlass);
        p.holds(14, "a COIL (a MASTER, too) how many CERTIFICATES that are not VOID were made by it",
            BulbsTest::markOfCoil);
        p.holds(14, "a MASTER how many that rest on its, at whatever depth, and are not VOID",
            BulbsTest::markOfMaster);
        p.holds(14, "BAD: also KIND 0", BulbsTest::markBad);
        p.holds(14, "UNLIKE", BulbsTest::markUnlike);
        p.holds(15, "A STEM (reading, t, s -100000 .. 100000; n 0 .. 1000) of a GLASS, told by upper(), lower(): 1",
            BulbsTest::stemEnds);
        p.holds(15, "BAD", BulbsTest::stemBad);
        p.holds(15, "UNLIKE", BulbsTest::stemUnlike);
        p.holds(16, "TWO CURRENTS of a COIL (a, b -100000 .. 100000), told by upper(), lower(): 1",
            BulbsTest::currentsTell);
        p.holds(16, "BAD", BulbsTest::currentsBad);
        p.holds(16, "UNLIKE", BulbsTest::currentsUnlike);
        p.holds(16, "NOUGHT", BulbsTest::currentsNought);
    }

    private static void toldIs(Check check, BathBook x, int bulb, int... facts) {
        for (int what = 0; what < facts.length; what++) {
            check.due("told(" + bulb + ", " + what + ")", x.told(bulb, what), facts[what]);
        }
    }

    private static BathBook sixteen() {
        BathBook x = new BathBook();
        for (int i = 0; i < 16; i++) {
            x.bulb(i % 4, i);
        }
        return x;
    }

    // ---- Terms

    private static void bulbNumbers(Check check) {
        BathBook x = new BathBook();
        for (int i = 0; i < 16; i++) {
            check.due("bulb " + i, x.bulb(i % 4, 100 + i), i);
        }
        check.due("bulb 16", x.bulb(0, 0), BathBook.FULL);
        check.due("count(2)", x.count(2), 16);
        for (int i = 0; i < 16; i++) {
            toldIs(check, x, i, i % 4, 100 + i);
        }
    }

    private static void kindsThatAre(Check check) {
        boolean[][] is = {{false, false, false}, {true, false, false}, {false, true, false}, {false, true, true}};
        for (int bulb = 0; bulb < 4; bulb++) {
            for (int kind = 1; kind < 4; kind++) {
                BathBook x = Books.ofEachKind();
                int answer = x.mark(bulb, kind);
                check.due("whether " + bulb + " is a " + kind, answer == BathBook.FINDING ? 0 : 1,
                    is[bulb][kind - 1] ? 1 : 0);
            }
            BathBook x = Books.ofEachKind();
            check.due("a stem of " + bulb, x.stem(bulb, 0, 0, 0, 0), bulb == 1 ? 1 : BathBook.FINDING);
            check.due("currents of " + bulb, x.currents(bulb, 0, 1, 0, 2), bulb >= 2 ? 1 : BathBook.FINDING);
        }
    }

    private static void tolerances(Check check) {
        BathBook x = new BathBook();
        check.due("bulb(0, 0)", x.bulb(0, 0), 0);
        check.due("bulb(3, 10000)", x.bulb(3, 10000), 1);
        toldIs(check, x, 0, 0, 0);
        toldIs(check, x, 1, 3, 10000);
    }

    private static void stemIs(Check check, int[] call, long upper, long lower) {
        BathBook x = Books.ofEachKind();
        String name = "stem(1, " + call[0] + ", " + call[1] + ", " + call[2] + ", " + call[3] + ")";
        check.due(name, x.stem(1, call[0], call[1], call[2], call[3]), 1);
        check.fraction(name, x, upper, lower);
    }

    private static int[] of(int... numbers) {
        return numbers;
    }

    private static void stemWorths(Check check) {
        stemIs(check, of(0, 1, 1, 0), 1, 6250);
        stemIs(check, of(0, 1, 0, 1), -1, 6250);
        stemIs(check, of(1, 50, 200, 25), 12, 5);
        stemIs(check, of(-1, 50, 25, 200), -12, 5);
        stemIs(check, of(10, 5, 7, 7), 10, 1);
        stemIs(check, of(-1, 125, 50, 0), 0, 1);
    }

    private static void currentsIs(Check check, int bulb, int[] call, long upper, long lower) {
        BathBook x = Books.ofEachKind();
        String name = "currents(" + bulb + ", " + call[0] + ", " + call[1] + ", " + call[2] + ", " + call[3] + ")";
        check.due(name, x.currents(bulb, call[0], call[1], call[2], call[3]), 1);
        check.fraction(name, x, upper, lower);
    }

    private static void currentWorths(Check check) {
        currentsIs(check, 2, of(10, 1, 13, 2), 9, 1);
        currentsIs(check, 2, of(13, 2, 10, 1), 9, 1);
        currentsIs(check, 2, of(10, 1, 10, 2), 10, 1);
        currentsIs(check, 2, of(10, 1, 11, 3), 79, 8);
        currentsIs(check, 2, of(11, 3, 10, 1), 79, 8);
        currentsIs(check, 2, of(0, 2, 1, 1), 4, 3);
        currentsIs(check, 2, of(1, 1, 4, 2), 0, 1);
    }

    private static void currentEnds(Check check) {
        currentsIs(check, 2, of(0, 1, 9999, 100), -1, 1);
        currentsIs(check, 2, of(9999, 100, 0, 1), -1, 1);
        currentsIs(check, 2, of(0, 99, 199, 100), -9801, 1);
        Check.Given busy = check.given(Books::busy);
        for (int v : new int[] {0, 101}) {
            busy.bad("currents(2, 0, " + v + ", 0, 2)", b -> b.currents(2, 0, v, 0, 2));
            busy.bad("currents(2, 0, 2, 0, " + v + ")", b -> b.currents(2, 0, 2, 0, v));
        }
    }

    private static void currentsAlike(Check check) {
        Check.Given busy = check.given(Books::busy);
        for (int current : new int[] {1, 50, 100}) {
            busy.finds(NOUGHT, "currents alike at " + current, b -> b.currents(2, 5, current, 6, current));
        }
    }

    // ---- promise 12

    private static void bulbTellsNumber(Check check) {
        BathBook x = Books.busy();
        check.due("bulb(3, 9)", x.bulb(3, 9), 5);
        toldIs(check, x, 5, 3, 9, 0, 0, NONE);
        check.due("bulb(0, 0)", x.bulb(0, 0), 6);
        check.due("count(2)", x.count(2), 7);
    }

    private static void bulbBad(Check check) {
        Check.Given busy = check.given(Books::busy);
        Check.Given full = check.given(BulbsTest::sixteen);
        for (int kind : new int[] {-1, 4, NONE, LEAST, GREATEST}) {
            busy.bad("bulb(" + kind + ", 0)", b -> b.bulb(kind, 0));
            full.bad("bulb(" + kind + ", 0), ahead of FULL", b -> b.bulb(kind, 0));
        }
        for (int tolerance : new int[] {-1, 10001, NONE, LEAST, GREATEST}) {
            busy.bad("bulb(0, " + tolerance + ")", b -> b.bulb(0, tolerance));
            full.bad("bulb(0, " + tolerance + "), ahead of FULL", b -> b.bulb(0, tolerance));
        }
    }

    private static void bulbFull(Check check) {
        Check.Given full = check.given(BulbsTest::sixteen);
        full.full("bulb(0, 0)", b -> b.bulb(0, 0));
        full.full("bulb(3, 10000)", b -> b.bulb(3, 10000));
    }

    // ---- promise 13

    private static void toldKindAndTolerance(Check check) {
        BathBook x = Books.busy();
        for (int bulb = 0; bulb < 4; bulb++) {
            toldIs(check, x, bulb, bulb, 10 + 10 * bulb);
        }
        toldIs(check, x, 4, 0, 7);
    }

    private static void toldCounts(Check check) {
        BathBook x = Books.busy();
        toldIs(check, x, 4, 0, 7, 0, 0);
        toldIs(check, x, 0, 0, 10, 2, 1);
        toldIs(check, x, 3, 3, 40, 1, 0);
        x.wrong(0, 10, 10);
        toldIs(check, x, 0, 0, 10, 2, 2);
        toldIs(check, x, 3, 3, 40, 1, 1);
    }

    private static void toldLatest(Check check) {
        BathBook x = Books.ofEachKind();
        check.due("told(3, 4) of none", x.told(3, 4), NONE);
        x.certify(3, NONE, 0, 9, 1, 1);
        x.certify(2, 3, 1, 9, 1, 1);
        x.certify(3, NONE, 2, 5, 1, 1);
        check.due("told(3, 4), the last told", x.told(3, 4), 2);
        check.due("told(2, 4)", x.told(2, 4), 1);
        x.wrong(2, 5, 5);
        check.due("told(3, 4), the other being VOID", x.told(3, 4), 0);
        x.wrong(0, 9, 9);
        check.due("told(3, 4), all being VOID", x.told(3, 4), NONE);
        check.due("told(2, 4), all being VOID", x.told(2, 4), NONE);
    }

    private static void toldBad(Check check) {
        Check.Given busy = check.given(Books::busy);
        for (int bulb : NO_BULBS) {
            busy.bad("told(" + bulb + ", 0)", b -> b.told(bulb, 0));
        }
        for (int what : new int[] {-1, 5, NONE, LEAST, GREATEST}) {
            busy.bad("told(0, " + what + ")", b -> b.told(0, what));
        }
        check.given(BathBook::new).bad("told(0, 0) of a new book", b -> b.told(0, 0));
    }

    // ---- promise 14

    private static void markOfGlass(Check check) {
        BathBook x = Books.busy();
        check.due("mark(1, 1)", x.mark(1, 1), 20);
        check.due("bulb(1, 0)", x.bulb(1, 0), 5);
        check.due("bulb(1, 10000)", x.bulb(1, 10000), 6);
        check.due("mark(5, 1)", x.mark(5, 1), 0);
        check.due("mark(6, 1)", x.mark(6, 1), 10000);
    }

    private static void markOfCoil(Check check) {
        BathBook x = Books.ofEachKind();
        check.due("mark(2, 2) of none", x.mark(2, 2), 0);
        x.certify(3, NONE, 0, 1, 0, 0);
        x.certify(2, 3, 1, 1, 0, 0);
        check.due("mark(2, 2), its own is not by it", x.mark(2, 2), 0);
        check.due("mark(3, 2)", x.mark(3, 2), 1);
        x.certify(1, 2, 2, 1, 0, 0);
        x.certify(0, 1, 3, 1, 0, 0);
        x.certify(0, 2, 4, 1, 0, 0);
        check.due("mark(2, 2), not those further on", x.mark(2, 2), 2);
        check.due("mark(3, 2), not those further on", x.mark(3, 2), 1);
        x.wrong(4, 1, 1);
        check.due("mark(2, 2), one VOID", x.mark(2, 2), 1);
        x.wrong(0, 1, 1);
        check.due("mark(2, 2), all VOID", x.mark(2, 2), 0);
        check.due("mark(3, 2), all VOID", x.mark(3, 2), 0);
    }

    private static void markOfMaster(Check check) {
        BathBook x = Books.ofEachKind();
        x.certify(3, NONE, 0, 1, 0, 0);
        check.due("mark(3, 3), its own rests on none", x.mark(3, 3), 0);
        x.certify(2, 3, 1, 1, 0, 0);
        x.certify(1, 2, 2, 1, 0, 0);
        x.certify(0, 1, 3, 1, 0, 0);
        check.due("mark(3, 3), three deep", x.mark(3, 3), 3);
        x.certify(3, 2, 4, 1, 0, 0);
        check.due("mark(3, 3), its own that rests on its", x.mark(3, 3), 4);
        x.certify(0, 3, 5, 1, 0, 0);
        check.due("mark(3, 3), one on two of its is one", x.mark(3, 3), 5);
        x.certify(2, NONE, 6, 1, 0, 0);
        x.certify(1, 2, 7, 1, 0, 0);
        check.due("mark(3, 3), not those by a fixed point", x.mark(3, 3), 5);
        x.wrong(3, 1, 1);
        check.due("mark(3, 3), one VOID", x.mark(3, 3), 4);
        x.wrong(4, 1, 1);
        check.due("mark(3, 3), two more VOID", x.mark(3, 3), 2);
        x.wrong(0, 1, 1);
        check.due("mark(3, 3), all VOID", x.mark(3, 3), 0);
    }

    private static void markBad(Check check) {
        Check.Given busy = check.given(Books::busy);
        for (int bulb = 0; bulb < 4; bulb++) {
            final int of = bulb;
            busy.bad("mark(" + bulb + ", 0)", b -> b.mark(of, 0));
        }
        for (int kind : new int[] {-1, 4, NONE, LEAST, GREATEST}) {
            busy.bad("mark(3, " + kind + ")", b -> b.mark(3, kind));
            busy.bad("mark(0, " + kind + "), ahead of UNLIKE", b -> b.mark(0, kind));
        }
        for (int bulb : NO_BULBS) {
            busy.bad("mark(" + bulb + ", 1)", b -> b.mark(bulb, 1));
        }
    }

    private static void markUnlike(Check check) {
        Check.Given busy = check.given(Books::busy);
        int[][] unlike = {{0, 1}, {0, 2}, {0, 3}, {1, 2}, {1, 3}, {2, 1}, {2, 3}, {3, 1}};
        for (int[] call : unlike) {
            busy.finds(UNLIKE, "mark(" + call[0] + ", " + call[1] + ")", b -> b.mark(call[0], call[1]));
        }
    }

    // ---- promise 15

    private static void stemEnds(Check check) {
        stemIs(check, of(100000, 1000, 100000, -100000), 132000, 1);
        stemIs(check, of(-100000, 1000, 100000, -100000), -68000, 1);
        stemIs(check, of(100000, 1000, -100000, 100000), 68000, 1);
        stemIs(check, of(-100000, 1000, -100000, 100000), -132000, 1);
        stemIs(check, of(10, 0, 100000, -100000), 10, 1);
        stemIs(check, of(0, 0, 0, 0), 0, 1);
        stemIs(check, of(NONE, 0, 0, 0), -9, 1);
        BathBook x = Books.busy();
        check.due("stem(1, 1, 0, 0, 0)", x.stem(1, 1, 0, 0, 0), 1);
        check.due("stem tells nothing by asked()", x.asked(), 6);
    }

    private static void stemBad(Check check) {
        Check.Given busy = check.given(Books::busy);
        for (int bulb : NO_BULBS) {
            busy.bad("stem(" + bulb + ", ..)", b -> b.stem(bulb, 0, 0, 0, 0));
        }
        for (int n : new int[] {-1, 1001, NONE, LEAST, GREATEST}) {
            busy.bad("stem n " + n, b -> b.stem(1, 0, n, 0, 0));
            busy.bad("stem n " + n + ", ahead of UNLIKE", b -> b.stem(0, 0, n, 0, 0));
        }
        for (int v : NO_READINGS) {
            busy.bad("stem reading " + v, b -> b.stem(1, v, 0, 0, 0));
            busy.bad("stem t " + v, b -> b.stem(1, 0, 0, v, 0));
            busy.bad("stem s " + v, b -> b.stem(1, 0, 0, 0, v));
            busy.bad("stem s " + v + ", ahead of UNLIKE", b -> b.stem(2, 0, 0, 0, v));
        }
    }

    private static void stemUnlike(Check check) {
        Check.Given busy = check.given(Books::busy);
        for (int bulb : new int[] {0, 2, 3, 4}) {
            busy.finds(UNLIKE, "stem of " + bulb, b -> b.stem(bulb, 0, 0, 0, 0));
        }
    }

    // ---- promise 16

    private static void currentsTell(Check check) {
        for (int bulb = 2; bulb < 4; bulb++) {
            currentsIs(check, bulb, of(100000, 100, -100000, 99), -1980100000L, 199);
            currentsIs(check, bulb, of(-100000, 99, 100000, 100), -1980100000L, 199);
            currentsIs(check, bulb, of(100000, 1, 100000, 100), 100000, 1);
            currentsIs(check, bulb, of(-100000, 1, -100000, 2), -100000, 1);
            currentsIs(check, bulb, of(0, 1, 0, 100), 0, 1);
            currentsIs(check, bulb, of(NONE, 1, NONE, 2), -9, 1);
        }
        BathBook x = Books.busy();
        check.due("currents(3, 1, 1, 1, 2)", x.currents(3, 1, 1, 1, 2), 1);
        check.due("currents tell nothing by asked()", x.asked(), 6);
    }

    private static void currentsBad(Check check) {
        Check.Given busy = check.given(Books::busy);
        for (int bulb : NO_BULBS) {
            busy.bad("currents(" + bulb + ", ..)", b -> b.currents(bulb, 1, 4, 2, 5));
        }
        for (int v : NO_READINGS) {
            busy.bad("currents a " + v, b -> b.currents(2, v, 1, 0, 2));
            busy.bad("currents b " + v, b -> b.currents(2, 0, 1, v, 2));
        }
        for (int v : new int[] {0, -1, -2, 101, NONE, LEAST, GREATEST}) {
            busy.bad("currents i " + v, b -> b.currents(2, 0, v, 0, 2));
            busy.bad("currents j " + v, b -> b.currents(2, 0, 2, 0, v));
            busy.bad("currents i and j " + v + ", ahead of NOUGHT", b -> b.currents(2, 0, v, 0, v));
            busy.bad("currents i " + v + ", ahead of UNLIKE", b -> b.currents(0, 0, v, 0, 2));
        }
    }

    private static void currentsUnlike(Check check) {
        Check.Given busy = check.given(Books::busy);
        for (int bulb : new int[] {0, 1, 4}) {
            busy.finds(UNLIKE, "currents of " + bulb, b -> b.currents(bulb, 1, 4, 2, 5));
            busy.finds(UNLIKE, "currents of " + bulb + ", ahead of NOUGHT", b -> b.currents(bulb, 1, 5, 2, 5));
        }
    }

    private static void currentsNought(Check check) {
        Check.Given busy = check.given(Books::busy);
        busy.finds(NOUGHT, "currents(2, 7, 3, 7, 3)", b -> b.currents(2, 7, 3, 7, 3));
        busy.finds(NOUGHT, "currents(3, 7, 100, 8, 100)", b -> b.currents(3, 7, 100, 8, 100));
        BathBook x = Books.busy();
        check.due("currents(2, 7, 3, 7, 4)", x.currents(2, 7, 3, 7, 4), 1);
    }

    public static void main(String[] args) {
        Promises p = Promises.tested();
        all(p);
        p.end();
    }
}
