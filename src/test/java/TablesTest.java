import java.math.BigInteger;

/** Promises 8 to 11, and the Terms on TABLES: their POINTS and CURVES. */
public final class TablesTest {
    private static final int LEAST = Integer.MIN_VALUE, GREATEST = Integer.MAX_VALUE;
    private static final int[] NO_TABLES = {-1, 4, BathBook.NONE, LEAST, GREATEST};
    private static final int[] NO_XS = {-21, 21, LEAST, GREATEST};
    private static final int[] NO_YS = {-10001, 10001, LEAST, GREATEST};

    static void all(Promises p) {
        p.terms("TABLES 0 .. 3", TablesTest::tableNumbers);
        p.terms("have up to 4 POINTS", TablesTest::fourPoints);
        p.terms("(x -20 .. 20, each once; y -10000 .. 10000)", TablesTest::pointEnds);
        p.terms("the polynomial of least degree through all its POINTS", TablesTest::leastDegree);
        p.terms("its worth at an x (-20 .. 20) is a fraction", TablesTest::worths);
        p.holds(8, "A POINT of a TABLE: how many it has", TablesTest::pointCounts);
        p.holds(8, "BAD: also x twice", TablesTest::pointTwice);
        p.holds(8, "BAD", TablesTest::pointBad);
        p.holds(8, "FULL", TablesTest::pointFull);
        p.holds(9, "A TABLE has no POINTS: how many it had", TablesTest::clearEmpties);
        p.holds(9, "BAD", TablesTest::clearBad);
        p.holds(10, "THE CURVE at x, told by upper(), lower(): 1", TablesTest::curveTells);
        p.holds(10, "BAD", TablesTest::curveBad);
        p.holds(10, "STATE: no POINTS", TablesTest::curveState);
        p.holds(11, "The greatest difference (without sign) of two CURVES", TablesTest::apartGreatest);
        p.holds(11, "over all whole x from a to b", TablesTest::apartEnds);
        p.holds(11, "told by upper(), lower()", TablesTest::apartTells);
        p.holds(11, "the first such x, and 100 more", TablesTest::apartFirst);
        p.holds(11, "BAD: also a above b", TablesTest::apartBad);
        p.holds(11, "STATE: either has no POINTS", TablesTest::apartState);
    }

    private static void curveIs(Check check, BathBook x, int place, long upper, long lower) {
        String call = "curve(0, " + place + ")";
        check.due(call, x.curve(0, place), 1);
        check.fraction(call, x, upper, lower);
    }

    private static BathBook withTable(int... points) {
        BathBook x = new BathBook();
        Books.fillTable(x, 0, points);
        return x;
    }

    // ---- Terms

    private static void tableNumbers(Check check) {
        BathBook x = new BathBook();
        for (int table = 0; table < 4; table++) {
            check.due("point(" + table + ", 0, y)", x.point(table, 0, 100 + table), 1);
        }
        for (int table = 0; table < 4; table++) {
            check.due("curve(" + table + ", 0)", x.curve(table, 0), 1);
            check.fraction("curve(" + table + ", 0)", x, 100 + table, 1);
        }
    }

    private static void fourPoints(Check check) {
        BathBook x = new BathBook();
        for (int i = 0; i < 4; i++) {
            check.due("point " + i, x.point(3, i, 0), i + 1);
        }
        check.due("point 4", x.point(3, 4, 0), BathBook.FULL);
        check.due("count(1)", x.count(1), 4);
    }

    private static void pointEnds(Check check) {
        BathBook x = withTable(-20, -10000, 20, 10000);
        check.due("both ends are there", x.count(1), 2);
        curveIs(check, x, -20, -10000, 1);
        curveIs(check, x, 20, 10000, 1);
        curveIs(check, x, 0, 0, 1);
        check.due("point(0, 20, 0), x twice", x.point(0, 20, 0), BathBook.BAD);
        curveIs(check, x, 20, 10000, 1);
    }

    private static void leastDegree(Check check) {
        BathBook none = withTable(4, -7);
        curveIs(check, none, -20, -7, 1);
        curveIs(check, none, 20, -7, 1);
        BathBook one = withTable(0, 5, 1, 7, 3, 11);
        curveIs(check, one, 20, 45, 1);
        curveIs(check, one, -20, -35, 1);
        BathBook two = withTable(-1, 1, 1, 1, 2, 4, -20, 400);
        curveIs(check, two, 20, 400, 1);
        curveIs(check, two, 0, 0, 1);
        BathBook three = withTable(-1, -1, 1, 1, 2, 8, -20, -8000);
        curveIs(check, three, 20, 8000, 1);
        curveIs(check, three, -3, -27, 1);
    }

    private static void worths(Check check) {
        BathBook x = withTable(0, 0, 6, 4);
        curveIs(check, x, 1, 2, 3);
        curveIs(check, x, -1, -2, 3);
        curveIs(check, x, 3, 2, 1);
        curveIs(check, x, -20, -40, 3);
        curveIs(check, x, 20, 40, 3);
        BathBook steep = withTable(17, -10000, 18, 10000, 19, -10000, 20, 10000);
        curveIs(check, steep, -20, -759990000L, 1);
    }

    // ---- promise 8

    private static void pointCounts(Check check) {
        BathBook x = new BathBook();
        check.due("point(0, 1, 5)", x.point(0, 1, 5), 1);
        check.due("point(1, 1, 6)", x.point(1, 1, 6), 1);
        check.due("point(0, 2, 5)", x.point(0, 2, 5), 2);
        check.due("point(0, -2, 5)", x.point(0, -2, 5), 3);
        check.due("point(0, 0, 5)", x.point(0, 0, 5), 4);
        check.due("count(1)", x.count(1), 5);
    }

    private static void pointTwice(Check check) {
        Check.Given busy = check.given(Books::busy);
        busy.bad("point(0, 3, 9)", b -> b.point(0, 3, 9));
        busy.bad("point(0, 3, 2), the same", b -> b.point(0, 3, 2));
        busy.bad("point(0, 0, 1), the first", b -> b.point(0, 0, 1));
        busy.bad("point(2, -7, 0), ahead of FULL", b -> b.point(2, -7, 0));
        BathBook x = Books.busy();
        check.due("point(1, 3, 9), x in another TABLE", x.point(1, 3, 9), 2);
        x.clear(0);
        check.due("point(0, 3, 9) after clear", x.point(0, 3, 9), 1);
    }

    private static void pointBad(Check check) {
        Check.Given busy = check.given(Books::busy);
        for (int table : NO_TABLES) {
            busy.bad("point(" + table + ", 1, 1)", b -> b.point(table, 1, 1));
        }
        for (int at : NO_XS) {
            busy.bad("point(0, " + at + ", 1)", b -> b.point(0, at, 1));
            busy.bad("point(2, " + at + ", 1), ahead of FULL", b -> b.point(2, at, 1));
        }
        for (int y : NO_YS) {
            busy.bad("point(0, 1, " + y + ")", b -> b.point(0, 1, y));
            busy.bad("point(2, 2, " + y + "), ahead of FULL", b -> b.point(2, 2, y));
        }
    }

    private static void pointFull(Check check) {
        Check.Given busy = check.given(Books::busy);
        busy.full("point(2, 2, 0)", b -> b.point(2, 2, 0));
        busy.full("point(2, -20, 10000)", b -> b.point(2, -20, 10000));
        BathBook x = Books.busy();
        check.due("point(3, 2, 0), another TABLE", x.point(3, 2, 0), 1);
    }

    // ---- promise 9

    private static void clearEmpties(Check check) {
        BathBook x = Books.busy();
        int[] had = {2, 1, 4, 0};
        int left = 7;
        for (int table = 0; table < 4; table++) {
            check.due("clear(" + table + ")", x.clear(table), had[table]);
            left -= had[table];
            check.due("count(1) after clear " + table, x.count(1), left);
            check.due("clear(" + table + ") again", x.clear(table), 0);
        }
        check.due("point(2, 2, 5) of a full TABLE cleared", x.point(2, 2, 5), 1);
        check.due("curve(2, 9)", x.curve(2, 9), 1);
        check.fraction("curve(2, 9)", x, 5, 1);
    }

    private static void clearBad(Check check) {
        Check.Given busy = check.given(Books::busy);
        for (int table : NO_TABLES) {
            busy.bad("clear(" + table + ")", b -> b.clear(table));
        }
    }

    // ---- promise 10

    private static void curveTells(Check check) {
        BathBook x = withTable(6, 4, 0, 0);
        curveIs(check, x, 1, 2, 3);
        curveIs(check, x, 6, 4, 1);
        check.due("curve tells nothing by asked()", x.asked(), 0);
        check.due("point(0, 3, 0)", x.point(0, 3, 0), 3);
        curveIs(check, x, 1, -4, 9);
    }

    private static void curveBad(Check check) {
        Check.Given busy = check.given(Books::busy);
        for (int table : NO_TABLES) {
            busy.bad("curve(" + table + ", 0)", b -> b.curve(table, 0));
        }
        for (int at : NO_XS) {
            busy.bad("curve(0, " + at + ")", b -> b.curve(0, at));
            busy.bad("curve(3, " + at + "), ahead of STATE", b -> b.curve(3, at));
        }
    }

    private static void curveState(Check check) {
        check.given(Books::busy).state("curve(3, 0)", b -> b.curve(3, 0));
        check.given(BathBook::new).state("curve(0, 20) of a new book", b -> b.curve(0, 20));
        Check.Given cleared = check.given(() -> {
            BathBook b = Books.busy();
            b.clear(2);
            return b;
        });
        cleared.state("curve(2, -20) after clear", b -> b.curve(2, -20));
    }

    // ---- promise 11

    private static void apartIs(Check check, BathBook x, int[] call, int answer, long upper, long lower) {
        String name = "apart(" + call[0] + ", " + call[1] + ", " + call[2] + ", " + call[3] + ")";
        check.due(name, x.apart(call[0], call[1], call[2], call[3]), answer);
        check.fraction(name, x, upper, lower);
    }

    private static int[] of(int table, int other, int a, int b) {
        return new int[] {table, other, a, b};
    }

    /** TABLE 0 rises by 1 in 3, TABLE 1 falls by 1 in 2; they meet at 0. TABLE 2 has none. */
    private static BathBook twoLines() {
        BathBook x = withTable(0, 0, 3, 1);
        Books.fillTable(x, 1, 0, 0, 2, -1);
        return x;
    }

    private static void apartGreatest(Check check) {
        apartIs(check, twoLines(), of(0, 1, 1, 3), 103, 5, 2);
        apartIs(check, twoLines(), of(1, 0, 1, 3), 103, 5, 2);
        apartFurthest(check);
    }

    /** The two TABLES, of all there are, whose common lower number drives the upper ones furthest. */
    private static void apartFurthest(Check check) {
        int[] first = {-17, -3, 14, 20};
        int[] second = {-18, -5, 11, 20};
        int[] sign = {10000, -10000, 10000, -10000};
        BathBook x = new BathBook();
        for (int i = 0; i < 4; i++) {
            x.point(0, first[i], sign[i]);
            x.point(1, second[i], -sign[i]);
        }
        long[] value = exact(first, sign, -20);
        long[] less = exact(second, sign, -20);
        BigInteger upper = BigInteger.valueOf(value[0]).multiply(BigInteger.valueOf(less[1]))
            .add(BigInteger.valueOf(less[0]).multiply(BigInteger.valueOf(value[1]))).abs();
        BigInteger lower = BigInteger.valueOf(value[1]).multiply(BigInteger.valueOf(less[1]));
        BigInteger divisor = upper.gcd(lower);
        apartIs(check, x, of(0, 1, -20, 20), 80,
            upper.divide(divisor).longValueExact(), lower.divide(divisor).longValueExact());
    }

    private static long[] exact(int[] xs, int[] ys, int x) {
        BigInteger upper = BigInteger.ZERO;
        BigInteger lower = BigInteger.ONE;
        for (int i = 0; i < xs.length; i++) {
            long above = ys[i];
            long below = 1;
            for (int j = 0; j < xs.length; j++) {
                if (j != i) {
                    above *= x - xs[j];
                    below *= xs[i] - xs[j];
                }
            }
            upper = upper.multiply(BigInteger.valueOf(below)).add(lower.multiply(BigInteger.valueOf(above)));
            lower = lower.multiply(BigInteger.valueOf(below));
        }
        BigInteger divisor = upper.gcd(lower).multiply(BigInteger.valueOf(lower.signum()));
        return new long[] {upper.divide(divisor).longValueExact(), lower.divide(divisor).longValueExact()};
    }

    private static void apartEnds(Check check) {
        BathBook x = twoLines();
        apartIs(check, x, of(0, 1, -20, 19), 80, 50, 3);
        apartIs(check, x, of(0, 1, -19, 20), 120, 50, 3);
        apartIs(check, x, of(0, 1, -19, 19), 81, 95, 6);
        apartIs(check, x, of(0, 1, 20, 20), 120, 50, 3);
        apartIs(check, x, of(0, 1, -20, -20), 80, 50, 3);
        apartIs(check, x, of(0, 1, 0, 0), 100, 0, 1);
    }

    private static void apartTells(Check check) {
        BathBook x = twoLines();
        apartIs(check, x, of(0, 1, 1, 1), 101, 5, 6);
        apartIs(check, x, of(1, 0, 1, 1), 101, 5, 6);
        apartIs(check, x, of(0, 0, -20, 20), 80, 0, 1);
        check.due("apart tells nothing by asked()", x.asked(), 0);
    }

    private static void apartFirst(Check check) {
        BathBook x = twoLines();
        apartIs(check, x, of(0, 1, -20, 20), 80, 50, 3);
        apartIs(check, x, of(0, 1, -1, 1), 99, 5, 6);
        apartIs(check, x, of(0, 1, -1, 2), 102, 5, 3);
        apartIs(check, x, of(1, 1, -5, 5), 95, 0, 1);
        apartIs(check, x, of(1, 1, 7, 9), 107, 0, 1);
    }

    private static void apartBad(Check check) {
        Check.Given busy = check.given(Books::busy);
        for (int table : NO_TABLES) {
            busy.bad("apart(" + table + ", 0, 0, 1)", b -> b.apart(table, 0, 0, 1));
            busy.bad("apart(0, " + table + ", 0, 1)", b -> b.apart(0, table, 0, 1));
        }
        for (int at : NO_XS) {
            busy.bad("apart(0, 1, " + at + ", 20)", b -> b.apart(0, 1, at, 20));
            busy.bad("apart(0, 1, -20, " + at + ")", b -> b.apart(0, 1, -20, at));
        }
        busy.bad("apart(0, 1, 2, 1)", b -> b.apart(0, 1, 2, 1));
        busy.bad("apart(0, 1, 20, -20)", b -> b.apart(0, 1, 20, -20));
        busy.bad("apart(3, 3, 1, 0), ahead of STATE", b -> b.apart(3, 3, 1, 0));
        busy.bad("apart(0, 3, 0, 21), ahead of STATE", b -> b.apart(0, 3, 0, 21));
    }

    private static void apartState(Check check) {
        Check.Given busy = check.given(Books::busy);
        busy.state("apart(0, 3, 0, 1)", b -> b.apart(0, 3, 0, 1));
        busy.state("apart(3, 0, 0, 1)", b -> b.apart(3, 0, 0, 1));
        busy.state("apart(3, 3, 0, 0)", b -> b.apart(3, 3, 0, 0));
    }

    public static void main(String[] args) {
        Promises p = Promises.tested();
        all(p);
        p.end();
    }
}
