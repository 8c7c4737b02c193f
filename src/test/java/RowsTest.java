/** Promises 2 to 7 and 17: ROWS, their means, plateaus and comparisons. */
public final class RowsTest {
    private static final Check CHECK = new Check();
    private static final int LOST = BathBook.NONE, BAD = BathBook.BAD;
    private static final int NOTHING = 1, BEYOND = 2, NOUGHT = 4, SIZE = 5;

    private static BathBook with(int... readings) {
        BathBook x = new BathBook();
        fill(x, 0, readings);
        return x;
    }

    private static void fill(BathBook x, int r, int... readings) {
        x.row(r, readings.length);
        for (int i = 0; i < readings.length; i++) {
            x.lay(r, i, readings[i]);
        }
    }

    /** lay() with what stands there tells it and changes nothing. */
    private static void holds(String call, BathBook x, int r, int... readings) {
        long before = x.digest();
        for (int i = 0; i < readings.length; i++) {
            CHECK.due(call + " lay " + i, x.lay(r, i, readings[i]), 1);
            CHECK.due(call + " reading " + i, x.asked(), readings[i]);
        }
        CHECK.due(call + " as before", x.digest(), before);
    }

    private static void row() {
        BathBook x = new BathBook();
        CHECK.due("row(0, 40)", x.row(0, 40), 40);
        CHECK.due("row(5, 0)", x.row(5, 0), 0);
        CHECK.due("count(0)", x.count(0), 2);
        holds("row(0, 40)", x, 0, new int[40]);
        x.lay(0, 1, 7);
        x.lay(0, 3, 8);
        CHECK.due("row(0, 2) anew", x.row(0, 2), 2);
        CHECK.due("row(0, 5) anew", x.row(0, 5), 5);
        holds("row anew", x, 0, 0, 0, 0, 0, 0);
        CHECK.refused("row(-1, 1)", x, BAD, () -> x.row(-1, 1));
        CHECK.refused("row(6, 1)", x, BAD, () -> x.row(6, 1));
        CHECK.refused("row(6, -1)", x, BAD, () -> x.row(6, -1));
        CHECK.refused("row(0, 41)", x, BAD, () -> x.row(0, 41));
        CHECK.refused("row(0, greatest)", x, BAD, () -> x.row(0, Integer.MAX_VALUE));
        CHECK.found("row(0, -1)", x, SIZE, () -> x.row(0, -1));
        CHECK.found("row(0, least)", x, SIZE, () -> x.row(0, Integer.MIN_VALUE));
        CHECK.found("row(3, -1) missing", x, SIZE, () -> x.row(3, -1));
    }

    private static void lay() {
        BathBook x = with(0, 0, 0);
        CHECK.due("lay(0, 2, 100000)", x.lay(0, 2, 100000), 1);
        CHECK.due("it was 0", x.asked(), 0);
        CHECK.due("lay(0, 2, -100000)", x.lay(0, 2, -100000), 1);
        CHECK.due("it was 100000", x.asked(), 100000);
        CHECK.due("lay(0, 2, NONE)", x.lay(0, 2, LOST), 1);
        CHECK.due("it was -100000", x.asked(), -100000);
        CHECK.due("lay(0, 2, 4)", x.lay(0, 2, 4), 1);
        CHECK.due("it was lost", x.asked(), LOST);
        holds("lay", x, 0, 0, 0, 4);
        CHECK.refused("lay(-1, 0, 0)", x, BAD, () -> x.lay(-1, 0, 0));
        CHECK.refused("lay(6, 0, 0)", x, BAD, () -> x.lay(6, 0, 0));
        CHECK.refused("lay(0, 0, 100001)", x, BAD, () -> x.lay(0, 0, 100001));
        CHECK.refused("lay(0, 0, -100001)", x, BAD, () -> x.lay(0, 0, -100001));
        CHECK.refused("lay(1, 9, 100001) BAD ahead", x, BAD, () -> x.lay(1, 9, 100001));
        CHECK.found("lay(1, 9, 0) NOTHING ahead", x, NOTHING, () -> x.lay(1, 9, 0));
        CHECK.found("lay(0, 3, 0)", x, BEYOND, () -> x.lay(0, 3, 0));
        CHECK.found("lay(0, -1, 0)", x, BEYOND, () -> x.lay(0, -1, 0));
        CHECK.found("lay(0, greatest, 0)", x, BEYOND, () -> x.lay(0, Integer.MAX_VALUE, 0));
        CHECK.found("lay(0, least, 0)", x, BEYOND, () -> x.lay(0, Integer.MIN_VALUE, 0));
        x.row(2, 0);
        CHECK.found("lay(2, 0, 0) of an empty ROW", x, BEYOND, () -> x.lay(2, 0, 0));
    }

    private static void tear() {
        BathBook x = with(1, 2);
        CHECK.refused("tear(-1)", x, BAD, () -> x.tear(-1));
        CHECK.refused("tear(6)", x, BAD, () -> x.tear(6));
        CHECK.found("tear(5)", x, NOTHING, () -> x.tear(5));
        CHECK.due("tear(0)", x.tear(0), 1);
        CHECK.due("count(0)", x.count(0), 0);
        CHECK.found("tear(0) again", x, NOTHING, () -> x.tear(0));
        CHECK.due("row(0, 2)", x.row(0, 2), 2);
        holds("row after tear", x, 0, 0, 0);
    }

    private static void copy() {
        BathBook x = with(1, 2, LOST, 4, 5);
        fill(x, 1, 11, 12, 13);
        CHECK.due("copy to itself, on", x.copy(0, 0, 0, 1, 4), 1);
        holds("copy on", x, 0, 1, 1, 2, LOST, 4);
        CHECK.due("copy to itself, back", x.copy(0, 1, 0, 0, 4), 1);
        holds("copy back", x, 0, 1, 2, LOST, 4, 4);
        CHECK.due("copy to another", x.copy(0, 2, 1, 1, 2), 1);
        holds("copy to another", x, 1, 11, LOST, 4);
        holds("copy from one", x, 0, 1, 2, LOST, 4, 4);
        CHECK.due("copy none", x.copy(0, 5, 1, 3, 0), 1);
        copyRefusals(x);
    }

    private static void copyRefusals(BathBook x) {
        CHECK.refused("copy(6, ..)", x, BAD, () -> x.copy(6, 0, 0, 0, -1));
        CHECK.refused("copy(-1, ..)", x, BAD, () -> x.copy(-1, 0, 0, 0, 0));
        CHECK.refused("copy(.., 6, ..)", x, BAD, () -> x.copy(0, 0, 6, 0, 0));
        CHECK.refused("copy(.., -1, ..)", x, BAD, () -> x.copy(0, 0, -1, 0, 0));
        CHECK.found("copy SIZE ahead of NOTHING", x, SIZE, () -> x.copy(3, 0, 4, 0, -1));
        CHECK.found("copy SIZE ahead of BEYOND", x, SIZE, () -> x.copy(0, 9, 1, 9, -1));
        CHECK.found("copy from a missing", x, NOTHING, () -> x.copy(3, 9, 1, 9, 50));
        CHECK.found("copy to a missing", x, NOTHING, () -> x.copy(0, 9, 3, 9, 50));
        CHECK.found("copy not so many", x, BEYOND, () -> x.copy(0, 3, 1, 0, 3));
        CHECK.found("copy not so many places", x, BEYOND, () -> x.copy(0, 0, 1, 1, 3));
        CHECK.found("copy from -1", x, BEYOND, () -> x.copy(0, -1, 1, 0, 1));
        CHECK.found("copy to -1", x, BEYOND, () -> x.copy(0, 0, 1, -1, 1));
        CHECK.found("copy none from 6 of 5", x, BEYOND, () -> x.copy(0, 6, 1, 0, 0));
        CHECK.found("copy none to 4 of 3", x, BEYOND, () -> x.copy(0, 0, 1, 4, 0));
        CHECK.found("copy greatest", x, BEYOND, () -> x.copy(0, 1, 1, 1, Integer.MAX_VALUE));
        CHECK.found("copy from the greatest", x, BEYOND, () -> x.copy(0, Integer.MAX_VALUE, 1, 0, 1));
        CHECK.found("copy to the greatest", x, BEYOND, () -> x.copy(0, 0, 1, Integer.MAX_VALUE, 1));
        CHECK.found("copy from the least", x, BEYOND, () -> x.copy(0, Integer.MIN_VALUE, 1, 0, 1));
    }

    private static void mean() {
        BathBook x = with(-1, -2, LOST, -2);
        CHECK.due("mean(0)", x.mean(0), 1);
        CHECK.due("mean cut towards 0", x.asked(), -1);
        fill(x, 1, 1, 2, 2, LOST);
        CHECK.due("mean(1)", x.mean(1), 1);
        CHECK.due("mean cut", x.asked(), 1);
        fill(x, 2, 100000, 100000, 99999);
        CHECK.due("mean(2)", x.mean(2), 1);
        CHECK.due("mean of great ones", x.asked(), 99999);
        fill(x, 3, LOST, LOST);
        CHECK.found("mean of lost ones", x, NOUGHT, () -> x.mean(3));
        x.row(4, 0);
        CHECK.found("mean of no READINGS", x, NOUGHT, () -> x.mean(4));
        CHECK.found("mean of a missing", x, NOTHING, () -> x.mean(5));
        CHECK.refused("mean(6)", x, BAD, () -> x.mean(6));
        CHECK.refused("mean(-1)", x, BAD, () -> x.mean(-1));
        CHECK.fraction("mean tells no fraction", x, 0, 1);
    }

    private static void plateauIs(BathBook x, int w, int m, int start, int length, long upper, long lower) {
        String call = "plateau(0, " + w + ", " + m + ")";
        CHECK.due(call, x.plateau(0, w, m), start);
        CHECK.due(call + " asked()", x.asked(), length);
        CHECK.fraction(call, x, upper, lower);
    }

    private static void plateau() {
        BathBook x = with(5, 7, 6, LOST, -3, -2, -4, 100, 100);
        plateauIs(x, 2, 1, 0, 3, 6, 1);
        plateauIs(x, 1, 2, 1, 2, 13, 2);
        plateauIs(x, 0, 2, 7, 2, 100, 1);
        plateauIs(x, 2, 3, 0, 3, 6, 1);
        plateauIs(x, 104, 5, 4, 5, 191, 5);
        plateauIs(x, 100000, 1, 4, 5, 191, 5);
        plateauIs(x, 103, 1, 0, 3, 6, 1);
        CHECK.refused("plateau none", x, BathBook.NONE, () -> x.plateau(0, 2, 4));
        plateauEdges();
        CHECK.refused("plateau(6, 0, 1)", x, BAD, () -> x.plateau(6, 0, 1));
        CHECK.refused("plateau(-1, 0, 1)", x, BAD, () -> x.plateau(-1, 0, 1));
        CHECK.refused("plateau w -1", x, BAD, () -> x.plateau(0, -1, 1));
        CHECK.refused("plateau w 100001", x, BAD, () -> x.plateau(0, 100001, 1));
        CHECK.refused("plateau m 0", x, BAD, () -> x.plateau(0, 0, 0));
        CHECK.refused("plateau m 41", x, BAD, () -> x.plateau(0, 0, 41));
        CHECK.refused("plateau m 41, missing", x, BAD, () -> x.plateau(1, 0, 41));
        CHECK.found("plateau missing", x, NOTHING, () -> x.plateau(1, 0, 1));
    }

    private static void plateauEdges() {
        BathBook wide = with(100000, -100000, 0, 100000);
        plateauIs(wide, 100000, 1, 1, 2, -50000, 1);
        plateauIs(wide, 99999, 1, 0, 1, 100000, 1);
        BathBook lost = with(LOST, LOST);
        CHECK.refused("plateau of lost", lost, BathBook.NONE, () -> lost.plateau(0, 100000, 1));
        BathBook full = new BathBook();
        full.row(0, 40);
        plateauIs(full, 0, 40, 0, 40, 0, 1);
        full.lay(0, 39, 1);
        plateauIs(full, 1, 40, 0, 40, 1, 40);
        BathBook turned = with(0, LOST, -8, -10, -10, LOST, -9);
        plateauIs(turned, 2, 3, 2, 3, -28, 3);
        turned.lay(0, 5, -10);
        plateauIs(turned, 2, 4, 2, 4, -19, 2);
    }

    private static void compare() {
        BathBook x = with(10, 21, 32, 35, 26, 13);
        CHECK.due("compare(0, 0)", x.compare(0, 0), 1);
        CHECK.fraction("compare(0, 0)", x, 12, 1);
        CHECK.due("compare(0, 1)", x.compare(0, 1), 1);
        CHECK.fraction("compare(0, 1)", x, 22, 1);
        CHECK.refused("compare(0, 2)", x, BathBook.NONE, () -> x.compare(0, 2));
        CHECK.refused("compare(0, -1)", x, BathBook.NONE, () -> x.compare(0, -1));
        CHECK.refused("compare(0, greatest)", x, BathBook.NONE, () -> x.compare(0, Integer.MAX_VALUE));
        fill(x, 1, 5, 1, 1, 6);
        CHECK.due("compare(1, 0)", x.compare(1, 0), 1);
        CHECK.fraction("compare(1, 0)", x, -9, 2);
        CHECK.refused("compare(1, 1)", x, BathBook.NONE, () -> x.compare(1, 1));
        for (int size : new int[] {0, 1, 2, 3, 5, 7, 39}) {
            x.row(2, size);
            CHECK.found("compare of " + size, x, SIZE, () -> x.compare(2, 0));
        }
        x.row(2, 40);
        CHECK.due("compare(2, 18)", x.compare(2, 18), 1);
        CHECK.refused("compare(2, 19)", x, BathBook.NONE, () -> x.compare(2, 19));
        x.lay(2, 39, LOST);
        CHECK.found("compare with a lost one", x, SIZE, () -> x.compare(2, 0));
        CHECK.found("compare SIZE ahead of NONE", x, SIZE, () -> x.compare(2, 19));
        CHECK.found("compare missing", x, NOTHING, () -> x.compare(3, 0));
        CHECK.refused("compare(6, 0)", x, BAD, () -> x.compare(6, 0));
        CHECK.refused("compare(-1, 0)", x, BAD, () -> x.compare(-1, 0));
        steadyDriftFallsOut();
    }

    /** The order is there for this: a drift by the same much each READING is not seen. */
    private static void steadyDriftFallsOut() {
        int[] worth = {100, 103, 99, 120, 120, 99, 103, 100};
        for (int i = 0; i < worth.length; i++) {
            worth[i] += 7 * i;
        }
        BathBook x = with(worth);
        int[] want = {3, -1, 20};
        for (int i = 0; i < want.length; i++) {
            CHECK.due("compare drifting", x.compare(0, i), 1);
            CHECK.fraction("compare drifting " + i, x, want[i], 1);
        }
    }

    public static void main(String[] args) {
        row();
        lay();
        tear();
        copy();
        mean();
        plateau();
        compare();
        CHECK.end();
    }
}
