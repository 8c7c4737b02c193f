/** Promises 12 to 16: BULBS, their KINDS, stems and currents. */
public final class BulbsTest {
    private static final Check CHECK = new Check();
    private static final int BAD = BathBook.BAD, NONE = BathBook.NONE;
    private static final int UNLIKE = 3, NOUGHT = 4;

    /** BULB 0 is a BULB, 1 a GLASS, 2 a COIL, 3 a MASTER. */
    private static BathBook ofEachKind() {
        BathBook x = new BathBook();
        for (int kind = 0; kind < 4; kind++) {
            x.bulb(kind, 10 * kind);
        }
        return x;
    }

    private static void bulb() {
        BathBook x = new BathBook();
        CHECK.refused("bulb(-1, 0)", x, BAD, () -> x.bulb(-1, 0));
        CHECK.refused("bulb(4, 0)", x, BAD, () -> x.bulb(4, 0));
        CHECK.refused("bulb(0, -1)", x, BAD, () -> x.bulb(0, -1));
        CHECK.refused("bulb(0, 10001)", x, BAD, () -> x.bulb(0, 10001));
        for (int i = 0; i < 16; i++) {
            CHECK.due("bulb " + i, x.bulb(i % 4, i == 15 ? 10000 : i), i);
        }
        CHECK.due("count(2)", x.count(2), 16);
        CHECK.refused("bulb full", x, BathBook.FULL, () -> x.bulb(0, 0));
        CHECK.refused("bulb full, BAD ahead", x, BAD, () -> x.bulb(4, 0));
        CHECK.due("told(15, 1)", x.told(15, 1), 10000);
    }

    private static void toldIs(BathBook x, int bulb, int... facts) {
        for (int what = 0; what < facts.length; what++) {
            CHECK.due("told(" + bulb + ", " + what + ")", x.told(bulb, what), facts[what]);
        }
    }

    private static void told() {
        BathBook x = ofEachKind();
        toldIs(x, 0, 0, 0, 0, 0, NONE);
        toldIs(x, 3, 3, 30, 0, 0, NONE);
        x.certify(3, NONE, 0, 9, 1, 1);
        x.certify(2, 3, 1, 9, 1, 1);
        x.certify(3, NONE, 2, 5, 1, 1);
        toldIs(x, 3, 3, 30, 2, 0, 2);
        toldIs(x, 2, 2, 20, 1, 0, 1);
        x.wrong(2, 5, 5);
        toldIs(x, 3, 3, 30, 2, 1, 0);
        x.wrong(0, 9, 9);
        toldIs(x, 3, 3, 30, 2, 2, NONE);
        toldIs(x, 2, 2, 20, 1, 1, NONE);
        CHECK.refused("told(4, 0)", x, BAD, () -> x.told(4, 0));
        CHECK.refused("told(-1, 0)", x, BAD, () -> x.told(-1, 0));
        CHECK.refused("told(NONE, 0)", x, BAD, () -> x.told(NONE, 0));
        CHECK.refused("told(0, 5)", x, BAD, () -> x.told(0, 5));
        CHECK.refused("told(0, -1)", x, BAD, () -> x.told(0, -1));
    }

    private static void markKinds() {
        BathBook x = ofEachKind();
        boolean[][] is = {{false, false, false}, {true, false, false}, {false, true, false}, {false, true, true}};
        for (int bulb = 0; bulb < 4; bulb++) {
            for (int kind = 1; kind < 4; kind++) {
                final int b = bulb;
                final int k = kind;
                if (is[bulb][kind - 1]) {
                    CHECK.due("mark(" + b + ", " + k + ")", x.mark(b, k), k == 1 ? 10 : 0);
                } else {
                    CHECK.found("mark(" + b + ", " + k + ")", x, UNLIKE, () -> x.mark(b, k));
                }
            }
        }
        CHECK.refused("mark KIND 0", x, BAD, () -> x.mark(0, 0));
        CHECK.refused("mark KIND 4", x, BAD, () -> x.mark(3, 4));
        CHECK.refused("mark KIND -1", x, BAD, () -> x.mark(3, -1));
        CHECK.refused("mark(4, 1)", x, BAD, () -> x.mark(4, 1));
        CHECK.refused("mark(-1, 1)", x, BAD, () -> x.mark(-1, 1));
    }

    private static void marks(BathBook x, int coil, int masterMade, int masterDeep) {
        CHECK.due("mark(2, 2)", x.mark(2, 2), coil);
        CHECK.due("mark(3, 2)", x.mark(3, 2), masterMade);
        CHECK.due("mark(3, 3)", x.mark(3, 3), masterDeep);
    }

    private static void markCounts() {
        BathBook x = ofEachKind();
        x.certify(3, NONE, 0, 1, 0, 0);
        marks(x, 0, 0, 0);
        x.certify(2, 3, 1, 1, 0, 0);
        marks(x, 0, 1, 1);
        x.certify(1, 2, 2, 1, 0, 0);
        x.certify(0, 1, 3, 1, 0, 0);
        marks(x, 1, 1, 3);
        x.certify(3, 2, 4, 1, 0, 0);
        marks(x, 2, 1, 4);
        x.certify(0, 3, 5, 1, 0, 0);
        marks(x, 2, 2, 5);
        x.certify(2, NONE, 6, 1, 0, 0);
        x.certify(1, 2, 7, 1, 0, 0);
        marks(x, 3, 2, 5);
        x.wrong(3, 1, 1);
        marks(x, 3, 2, 4);
        x.wrong(4, 1, 1);
        marks(x, 2, 1, 2);
        x.wrong(0, 1, 1);
        marks(x, 1, 0, 0);
    }

    private static void stemIs(BathBook x, int[] call, long upper, long lower) {
        String name = "stem(1, " + call[0] + ", " + call[1] + ", " + call[2] + ", " + call[3] + ")";
        CHECK.due(name, x.stem(1, call[0], call[1], call[2], call[3]), 1);
        CHECK.fraction(name, x, upper, lower);
    }

    private static void stem() {
        BathBook x = ofEachKind();
        stemIs(x, new int[] {10, 0, 5, 7}, 10, 1);
        stemIs(x, new int[] {10, 5, 7, 7}, 10, 1);
        stemIs(x, new int[] {0, 1, 1, 0}, 1, 6250);
        stemIs(x, new int[] {0, 1, 0, 1}, -1, 6250);
        stemIs(x, new int[] {100000, 1000, 100000, -100000}, 132000, 1);
        stemIs(x, new int[] {-100000, 1000, 100000, -100000}, -68000, 1);
        stemIs(x, new int[] {1, 50, 200, 25}, 12, 5);
        for (int bulb : new int[] {0, 2, 3}) {
            CHECK.found("stem of " + bulb, x, UNLIKE, () -> x.stem(bulb, 0, 0, 0, 0));
        }
        CHECK.refused("stem(4, ..)", x, BAD, () -> x.stem(4, 0, 0, 0, 0));
        CHECK.refused("stem(-1, ..)", x, BAD, () -> x.stem(-1, 0, 0, 0, 0));
        CHECK.refused("stem n -1", x, BAD, () -> x.stem(1, 0, -1, 0, 0));
        CHECK.refused("stem n 1001", x, BAD, () -> x.stem(1, 0, 1001, 0, 0));
        for (int v : new int[] {-100001, 100001}) {
            CHECK.refused("stem reading " + v, x, BAD, () -> x.stem(1, v, 0, 0, 0));
            CHECK.refused("stem t " + v, x, BAD, () -> x.stem(1, 0, 0, v, 0));
            CHECK.refused("stem s " + v, x, BAD, () -> x.stem(1, 0, 0, 0, v));
            CHECK.refused("stem BAD ahead of UNLIKE " + v, x, BAD, () -> x.stem(0, v, 0, 0, 0));
        }
    }

    private static void currentsIs(BathBook x, int[] call, long upper, long lower) {
        String name = "currents(" + call[0] + ", " + call[1] + ", " + call[2] + ", " + call[3] + ", " + call[4] + ")";
        CHECK.due(name, x.currents(call[0], call[1], call[2], call[3], call[4]), 1);
        CHECK.fraction(name, x, upper, lower);
    }

    private static void currents() {
        BathBook x = ofEachKind();
        currentsIs(x, new int[] {2, 10, 1, 13, 2}, 9, 1);
        currentsIs(x, new int[] {2, 13, 2, 10, 1}, 9, 1);
        currentsIs(x, new int[] {3, 10, 1, 10, 2}, 10, 1);
        currentsIs(x, new int[] {3, 10, 1, 11, 3}, 79, 8);
        currentsIs(x, new int[] {3, 0, 1, 0, 100}, 0, 1);
        currentsIs(x, new int[] {2, 100000, 100, -100000, 99}, -1980100000L, 199);
        CHECK.found("currents alike", x, NOUGHT, () -> x.currents(2, 1, 5, 2, 5));
        CHECK.found("currents of a GLASS", x, UNLIKE, () -> x.currents(1, 1, 4, 2, 5));
        CHECK.found("currents UNLIKE ahead of NOUGHT", x, UNLIKE, () -> x.currents(0, 1, 5, 2, 5));
        CHECK.refused("currents(4, ..)", x, BAD, () -> x.currents(4, 1, 4, 2, 5));
        CHECK.refused("currents(-1, ..)", x, BAD, () -> x.currents(-1, 1, 4, 2, 5));
        for (int v : new int[] {-100001, 100001}) {
            CHECK.refused("currents a " + v, x, BAD, () -> x.currents(2, v, 1, 0, 2));
            CHECK.refused("currents b " + v, x, BAD, () -> x.currents(2, 0, 1, v, 2));
        }
        for (int v : new int[] {-1, 0, 101}) {
            CHECK.refused("currents i " + v, x, BAD, () -> x.currents(2, 0, v, 0, 2));
            CHECK.refused("currents j " + v, x, BAD, () -> x.currents(2, 0, 2, 0, v));
            CHECK.refused("currents BAD ahead " + v, x, BAD, () -> x.currents(0, 0, v, 0, v));
        }
    }

    public static void main(String[] args) {
        bulb();
        told();
        markKinds();
        markCounts();
        stem();
        currents();
        CHECK.end();
    }
}
