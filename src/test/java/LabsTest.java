/** Promises 27 to 29: rounds of LABS. */
public final class LabsTest {
    private static final Check CHECK = new Check();
    private static final int BAD = BathBook.BAD, STATE = BathBook.STATE;

    private static void closesIs(BathBook x, int[] ring, int answer, long gap) {
        String call = "closes(" + ring[0] + ", " + ring[1] + ", " + ring[2] + ")";
        CHECK.due(call, x.closes(ring[0], ring[1], ring[2]), answer);
        CHECK.due(call + " asked()", x.asked(), gap);
    }

    private static void lab() {
        BathBook x = new BathBook();
        CHECK.due("lab(0, 5, 10000, 10000)", x.lab(0, 5, 10000, 10000), 1);
        CHECK.due("lab(5, 3, -10000, 0)", x.lab(5, 3, -10000, 0), 1);
        CHECK.due("lab(3, 0, 0, 0)", x.lab(3, 0, 0, 0), 1);
        closesIs(x, new int[] {0, 5, 3}, 1, 0);
        CHECK.due("lab told anew, the other way", x.lab(0, 3, -7, 2), 1);
        closesIs(x, new int[] {0, 5, 3}, 1, 7);
        CHECK.refused("lab(6, 0)", x, BAD, () -> x.lab(6, 0, 0, 0));
        CHECK.refused("lab(0, 6)", x, BAD, () -> x.lab(0, 6, 0, 0));
        CHECK.refused("lab(-1, 0)", x, BAD, () -> x.lab(-1, 0, 0, 0));
        CHECK.refused("lab(0, -1)", x, BAD, () -> x.lab(0, -1, 0, 0));
        CHECK.refused("lab(3, 3)", x, BAD, () -> x.lab(3, 3, 0, 0));
        CHECK.refused("lab v 10001", x, BAD, () -> x.lab(0, 5, 10001, 0));
        CHECK.refused("lab v -10001", x, BAD, () -> x.lab(0, 5, -10001, 0));
        CHECK.refused("lab end -1", x, BAD, () -> x.lab(0, 5, 0, -1));
        CHECK.refused("lab end 10001", x, BAD, () -> x.lab(0, 5, 0, 10001));
        closesIs(x, new int[] {0, 5, 3}, 1, 7);
    }

    private static void closes() {
        BathBook x = new BathBook();
        x.lab(0, 1, 5, 1);
        x.lab(2, 1, 2, 1);
        CHECK.refused("closes untold", x, STATE, () -> x.closes(0, 1, 2));
        CHECK.refused("closes untold, another start", x, STATE, () -> x.closes(1, 2, 0));
        CHECK.refused("closes untold, the other way", x, STATE, () -> x.closes(2, 1, 0));
        x.lab(0, 2, 0, 1);
        closesIs(x, new int[] {0, 1, 2}, 1, 3);
        closesIs(x, new int[] {1, 2, 0}, 1, 3);
        closesIs(x, new int[] {2, 0, 1}, 1, 3);
        closesIs(x, new int[] {0, 2, 1}, 1, -3);
        x.lab(0, 2, 0, 0);
        closesIs(x, new int[] {0, 1, 2}, 0, 3);
        closesIs(x, new int[] {2, 1, 0}, 0, -3);
        CHECK.refused("closes(0, 0, 1)", x, BAD, () -> x.closes(0, 0, 1));
        CHECK.refused("closes(0, 1, 0)", x, BAD, () -> x.closes(0, 1, 0));
        CHECK.refused("closes(1, 0, 0)", x, BAD, () -> x.closes(1, 0, 0));
        CHECK.refused("closes(4, 4, 5) ahead of STATE", x, BAD, () -> x.closes(4, 4, 5));
        CHECK.refused("closes(6, 0, 1)", x, BAD, () -> x.closes(6, 0, 1));
        CHECK.refused("closes(0, 6, 1)", x, BAD, () -> x.closes(0, 6, 1));
        CHECK.refused("closes(0, 1, 6)", x, BAD, () -> x.closes(0, 1, 6));
        CHECK.refused("closes(0, -1, 1)", x, BAD, () -> x.closes(0, -1, 1));
        CHECK.refused("closes(-1, 0, 1)", x, BAD, () -> x.closes(-1, 0, 1));
        CHECK.refused("closes(0, 1, -1)", x, BAD, () -> x.closes(0, 1, -1));
    }

    private static void open() {
        BathBook x = new BathBook();
        CHECK.due("open() of none told", x.open(), 0);
        for (int a = 0; a < 6; a++) {
            for (int b = a + 1; b < 6; b++) {
                x.lab(a, b, 1, 0);
            }
        }
        CHECK.due("open() of all", x.open(), 20);
        CHECK.due("open() tells nothing by asked()", x.asked(), 0);
        for (int b = 1; b < 6; b++) {
            x.lab(b, 0, -1, 1);
        }
        CHECK.due("open() but those with LAB 0", x.open(), 10);
        BathBook y = new BathBook();
        y.lab(0, 1, 9, 0);
        y.lab(1, 5, 9, 0);
        CHECK.due("open() of an untold ring", y.open(), 0);
        y.lab(5, 0, 9, 0);
        CHECK.due("open() of one", y.open(), 1);
        y.lab(5, 0, -18, 0);
        CHECK.due("open() of one that CLOSES", y.open(), 0);
    }

    public static void main(String[] args) {
        lab();
        closes();
        open();
        CHECK.end();
    }
}
