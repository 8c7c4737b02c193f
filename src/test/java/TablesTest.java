import java.math.BigInteger;

/** Promises 8 to 11: TABLES and their CURVES. */
public final class TablesTest {
    private static final Check CHECK = new Check();
    private static final int BAD = BathBook.BAD, FULL = BathBook.FULL, STATE = BathBook.STATE;

    private static void fill(BathBook x, int table, int[]... points) {
        x.clear(table);
        for (int[] p : points) {
            x.point(table, p[0], p[1]);
        }
    }

    private static int[] at(int x, int y) {
        return new int[] {x, y};
    }

    private static void point() {
        BathBook x = new BathBook();
        CHECK.due("point(0, -20, -10000)", x.point(0, -20, -10000), 1);
        CHECK.due("point(0, 20, 10000)", x.point(0, 20, 10000), 2);
        CHECK.due("point(3, 20, 1)", x.point(3, 20, 1), 1);
        CHECK.refused("point x twice", x, BAD, () -> x.point(0, 20, 3));
        CHECK.due("point(0, 0, 0)", x.point(0, 0, 0), 3);
        CHECK.due("point(0, 1, 0)", x.point(0, 1, 0), 4);
        CHECK.refused("point fifth", x, FULL, () -> x.point(0, 2, 0));
        CHECK.refused("point fifth, x twice", x, BAD, () -> x.point(0, 1, 5));
        CHECK.refused("point fifth, y 10001", x, BAD, () -> x.point(0, 2, 10001));
        CHECK.due("count(1)", x.count(1), 5);
        CHECK.refused("point(-1, 0, 0)", x, BAD, () -> x.point(-1, 0, 0));
        CHECK.refused("point(4, 0, 0)", x, BAD, () -> x.point(4, 0, 0));
        CHECK.refused("point x 21", x, BAD, () -> x.point(1, 21, 0));
        CHECK.refused("point x -21", x, BAD, () -> x.point(1, -21, 0));
        CHECK.refused("point y 10001", x, BAD, () -> x.point(1, 0, 10001));
        CHECK.refused("point y -10001", x, BAD, () -> x.point(1, 0, -10001));
        CHECK.due("curve(0, 20)", x.curve(0, 20), 1);
        CHECK.fraction("y stayed", x, 10000, 1);
    }

    private static void clear() {
        BathBook x = new BathBook();
        CHECK.due("clear(0) of none", x.clear(0), 0);
        fill(x, 0, at(1, 1), at(2, 2));
        fill(x, 1, at(3, 3));
        CHECK.due("clear(0)", x.clear(0), 2);
        CHECK.due("clear(0) again", x.clear(0), 0);
        CHECK.due("count(1)", x.count(1), 1);
        CHECK.due("point(0, 2, 5) after clear", x.point(0, 2, 5), 1);
        CHECK.due("curve(0, 9)", x.curve(0, 9), 1);
        CHECK.fraction("curve(0, 9)", x, 5, 1);
        CHECK.refused("clear(-1)", x, BAD, () -> x.clear(-1));
        CHECK.refused("clear(4)", x, BAD, () -> x.clear(4));
    }

    private static void curveIs(BathBook x, int table, int place, long upper, long lower) {
        String call = "curve(" + table + ", " + place + ")";
        CHECK.due(call, x.curve(table, place), 1);
        CHECK.fraction(call, x, upper, lower);
    }

    private static void curve() {
        BathBook x = new BathBook();
        CHECK.refused("curve without POINTS", x, STATE, () -> x.curve(0, 0));
        CHECK.refused("curve(4, 0)", x, BAD, () -> x.curve(4, 0));
        CHECK.refused("curve(-1, 0)", x, BAD, () -> x.curve(-1, 0));
        CHECK.refused("curve x 21 ahead of STATE", x, BAD, () -> x.curve(0, 21));
        CHECK.refused("curve x -21 ahead of STATE", x, BAD, () -> x.curve(0, -21));
        fill(x, 0, at(4, -7));
        curveIs(x, 0, 4, -7, 1);
        curveIs(x, 0, -20, -7, 1);
        fill(x, 0, at(0, 0), at(6, 4));
        curveIs(x, 0, 1, 2, 3);
        curveIs(x, 0, -1, -2, 3);
        curveIs(x, 0, 3, 2, 1);
        fill(x, 0, at(6, 4), at(0, 0));
        curveIs(x, 0, 1, 2, 3);
        fill(x, 0, at(0, 5), at(1, 7), at(3, 11));
        curveIs(x, 0, 20, 45, 1);
        fill(x, 0, at(-1, 1), at(1, 1), at(2, 4), at(-20, 400));
        curveIs(x, 0, 20, 400, 1);
        curveIs(x, 0, 0, 0, 1);
        fill(x, 0, at(-1, -1), at(1, 1), at(2, 8), at(-20, -8000));
        curveIs(x, 0, 20, 8000, 1);
        curveIs(x, 0, -3, -27, 1);
        fill(x, 0, at(17, -10000), at(18, 10000), at(19, -10000), at(20, 10000));
        curveIs(x, 0, -20, -759990000L, 1);
    }

    private static void apartIs(BathBook x, int[] call, int answer, long upper, long lower) {
        String name = "apart(" + call[0] + ", " + call[1] + ", " + call[2] + ", " + call[3] + ")";
        CHECK.due(name, x.apart(call[0], call[1], call[2], call[3]), answer);
        CHECK.fraction(name, x, upper, lower);
    }

    private static void apart() {
        BathBook x = new BathBook();
        fill(x, 0, at(0, 0), at(3, 1));
        fill(x, 1, at(0, 0), at(2, -1));
        apartIs(x, new int[] {0, 1, -1, 1}, 99, 5, 6);
        apartIs(x, new int[] {1, 0, -1, 1}, 99, 5, 6);
        apartIs(x, new int[] {0, 1, -1, 2}, 102, 5, 3);
        apartIs(x, new int[] {0, 1, 0, 0}, 100, 0, 1);
        apartIs(x, new int[] {1, 1, -5, 5}, 95, 0, 1);
        apartIs(x, new int[] {0, 1, -20, 20}, 80, 50, 3);
        apartIs(x, new int[] {0, 1, 20, 20}, 120, 50, 3);
        CHECK.refused("apart(0, 2)", x, STATE, () -> x.apart(0, 2, 0, 1));
        CHECK.refused("apart(2, 0)", x, STATE, () -> x.apart(2, 0, 0, 1));
        CHECK.refused("apart(2, 2)", x, STATE, () -> x.apart(2, 2, 0, 1));
        CHECK.refused("apart(2, 2) a above b", x, BAD, () -> x.apart(2, 2, 1, 0));
        CHECK.refused("apart(4, 0)", x, BAD, () -> x.apart(4, 0, 0, 1));
        CHECK.refused("apart(0, 4)", x, BAD, () -> x.apart(0, 4, 0, 1));
        CHECK.refused("apart(-1, 0)", x, BAD, () -> x.apart(-1, 0, 0, 1));
        CHECK.refused("apart(0, -1)", x, BAD, () -> x.apart(0, -1, 0, 1));
        CHECK.refused("apart a -21", x, BAD, () -> x.apart(0, 1, -21, 1));
        CHECK.refused("apart b 21", x, BAD, () -> x.apart(0, 1, 0, 21));
        CHECK.refused("apart a above b", x, BAD, () -> x.apart(0, 1, 2, 1));
    }

    /** The two TABLES, of all there are, whose common lower number drives the upper ones furthest. */
    private static void apartGreatest() {
        BathBook x = new BathBook();
        int[] first = {-17, -3, 14, 20};
        int[] second = {-18, -5, 11, 20};
        int[] sign = {10000, -10000, 10000, -10000};
        for (int i = 0; i < 4; i++) {
            x.point(0, first[i], sign[i]);
            x.point(1, second[i], -sign[i]);
        }
        long[] value = exact(first, sign, -20);
        long[] less = exact(second, sign, -20);
        BigInteger upper = BigInteger.valueOf(value[0]).multiply(BigInteger.valueOf(less[1]))
            .add(BigInteger.valueOf(less[0]).multiply(BigInteger.valueOf(value[1]))).abs();
        BigInteger lower = BigInteger.valueOf(value[1]).multiply(BigInteger.valueOf(less[1]));
        BigInteger divisor = upper.gcd(lower);
        CHECK.due("apart greatest", x.apart(0, 1, -20, 20), 80);
        CHECK.due("apart greatest upper()", x.upper(), upper.divide(divisor).longValueExact());
        CHECK.due("apart greatest lower()", x.lower(), lower.divide(divisor).longValueExact());
    }

    private static long[] exact(int[] xs, int[] ys, int x) {
        BigInteger upper = BigInteger.ZERO;
        BigInteger lower = BigInteger.ONE;
        for (int i = 0; i < xs.length; i++) {
            long above = ys[i];
            long below = 1;
            for (int j = 0; j < xs.length; j++) {
                if (j != i) {
                    above *= x - xs[j];
                    below *= xs[i] - xs[j];
                }
            }
            upper = upper.multiply(BigInteger.valueOf(below)).add(lower.multiply(BigInteger.valueOf(above)));
            lower = lower.multiply(BigInteger.valueOf(below));
        }
        BigInteger divisor = upper.gcd(lower).multiply(BigInteger.valueOf(lower.signum()));
        return new long[] {upper.divide(divisor).longValueExact(), lower.divide(divisor).longValueExact()};
    }

    public static void main(String[] args) {
        point();
        clear();
        curve();
        apart();
        apartGreatest();
        CHECK.end();
    }
}
