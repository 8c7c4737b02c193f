/** Promises 1 and 30 to 36: a new object, and what is told. */
public final class ToldTest {
    private static final Check CHECK = new Check();
    private static final int BAD = BathBook.BAD, NONE = BathBook.NONE;

    private static long digestOf(long... worths) {
        long h = 17;
        for (long v : worths) {
            h = 31 * h + v;
        }
        return h;
    }

    private static void newObject() {
        BathBook x = new BathBook();
        for (int what = 0; what < 5; what++) {
            CHECK.due("count(" + what + ")", x.count(what), 0);
        }
        for (int r = 0; r < 6; r++) {
            final int row = r;
            CHECK.found("mean(" + r + ")", x, 1, () -> x.mean(row));
        }
        for (int table = 0; table < 4; table++) {
            CHECK.due("clear(" + table + ")", x.clear(table), 0);
        }
        CHECK.refused("told(0, 0)", x, BAD, () -> x.told(0, 0));
        CHECK.refused("certificate(0, 0)", x, BAD, () -> x.certificate(0, 0));
        CHECK.due("another new one is new", new BathBook().finding(), 0);
    }

    private static void asked() {
        BathBook x = new BathBook();
        CHECK.due("asked() before", x.asked(), 0);
        x.row(0, 3);
        x.lay(0, 0, 6);
        CHECK.due("asked() of lay", x.asked(), 0);
        x.lay(0, 0, 7);
        CHECK.due("asked() of lay", x.asked(), 6);
        x.mean(0);
        CHECK.due("asked() of mean", x.asked(), 2);
        x.plateau(0, 7, 1);
        CHECK.due("asked() of plateau", x.asked(), 3);
        x.plateau(0, 0, 3);
        CHECK.due("asked() stays at NONE", x.asked(), 3);
        x.lay(0, 3, 3);
        CHECK.due("asked() stays at a refusal", x.asked(), 3);
        x.bulb(0, 5);
        x.certify(0, NONE, 0, 0, -17, 4);
        CHECK.due("asked() stays at others", x.asked(), 3);
        x.offset(0);
        CHECK.due("asked() of offset", x.asked(), -17);
        x.whole(0);
        CHECK.due("asked() of whole", x.asked(), 16);
        x.lab(0, 1, 4, 0);
        x.lab(1, 2, 4, 0);
        x.lab(2, 0, 4, 0);
        x.closes(0, 1, 2);
        CHECK.due("asked() of closes", x.asked(), 12);
        x.tear(0);
        x.open();
        CHECK.due("asked() twice", x.asked(), 12);
    }

    private static void fractions() {
        BathBook x = new BathBook();
        CHECK.fraction("before", x, 0, 1);
        x.row(0, 4);
        x.lay(0, 0, 9);
        x.compare(0, 0);
        CHECK.fraction("of compare", x, -9, 2);
        x.plateau(0, 9, 4);
        CHECK.fraction("of plateau", x, 9, 4);
        x.point(0, 3, 6);
        x.point(0, -3, 0);
        x.curve(0, -4);
        CHECK.fraction("of curve", x, -1, 1);
        x.point(1, 0, 0);
        x.apart(0, 1, -3, -3);
        CHECK.fraction("of apart", x, 0, 1);
        x.bulb(1, 100);
        x.bulb(2, 100);
        x.stem(0, 0, 1, 0, 5);
        CHECK.fraction("of stem", x, -1, 1250);
        x.currents(1, 1, 3, 0, 2);
        CHECK.fraction("of currents", x, -4, 5);
        x.certify(0, NONE, 0, 10, 5, 0);
        x.certify(0, NONE, 0, 4, 1, 0);
        x.drift(0);
        CHECK.fraction("of drift", x, 2, 3);
        x.due(0);
        x.mean(0);
        x.plateau(0, 0, 4);
        x.curve(2, 0);
        CHECK.fraction("stays at others, NONE and refusals", x, 2, 3);
    }

    private static void count() {
        BathBook x = new BathBook();
        x.row(1, 0);
        x.row(5, 3);
        x.row(5, 4);
        x.row(2, 4);
        x.tear(2);
        x.point(0, 1, 1);
        x.point(3, 1, 1);
        x.point(3, 2, 1);
        for (int i = 0; i < 4; i++) {
            x.bulb(0, 0);
        }
        for (int i = 0; i < 5; i++) {
            x.certify(0, NONE, i, 0, 0, 0);
        }
        x.wrong(4, 0, 0);
        int[] want = {2, 3, 4, 5, 1};
        for (int what = 0; what < 5; what++) {
            CHECK.due("count(" + what + ")", x.count(what), want[what]);
        }
        CHECK.refused("count(5)", x, BAD, () -> x.count(5));
        CHECK.refused("count(-1)", x, BAD, () -> x.count(-1));
        CHECK.refused("count(least)", x, BAD, () -> x.count(Integer.MIN_VALUE));
    }

    private static void findings() {
        BathBook x = new BathBook();
        CHECK.due("finding() before", x.finding(), 0);
        for (int f = 1; f <= 5; f++) {
            CHECK.due("findings(" + f + ") before", x.findings(f), 0);
        }
        x.bulb(0, 0);
        x.row(0, 0);
        CHECK.found("NOTHING", x, 1, () -> x.tear(1));
        CHECK.found("BEYOND", x, 2, () -> x.lay(0, 0, 0));
        CHECK.found("UNLIKE", x, 3, () -> x.mark(0, 1));
        CHECK.found("NOUGHT", x, 4, () -> x.mean(0));
        CHECK.found("SIZE", x, 5, () -> x.row(0, -1));
        CHECK.found("NOUGHT again", x, 4, () -> x.mean(0));
        CHECK.refused("BAD is no FINDING", x, BAD, () -> x.mean(6));
        CHECK.refused("STATE is no FINDING", x, BathBook.STATE, () -> x.curve(0, 0));
        x.row(0, 3);
        CHECK.due("finding() stays", x.finding(), 4);
        int[] want = {1, 1, 1, 2, 1};
        for (int f = 1; f <= 5; f++) {
            CHECK.due("findings(" + f + ")", x.findings(f), want[f - 1]);
        }
        for (int f : new int[] {0, 6, -1, Integer.MAX_VALUE, Integer.MIN_VALUE}) {
            CHECK.refused("findings(" + f + ")", x, BAD, () -> x.findings(f));
        }
    }

    private static void digest() {
        BathBook x = new BathBook();
        CHECK.due("digest() of a new one", x.digest(), digestOf(0, 0, 0, 0, 0, -1, -1, -1, -1, -1, -1));
        x.row(1, 2);
        x.lay(1, 0, -7);
        x.lay(1, 1, NONE);
        x.row(4, 0);
        x.point(2, 1, 1);
        x.bulb(3, 40);
        x.bulb(1, 50);
        x.certify(0, NONE, 6, 10, -8, 3);
        x.certify(1, 0, 5, 11, 9, 2);
        x.wrong(5, 11, 11);
        CHECK.due("digest()", x.digest(), digestOf(
            2, 1, 2, 2, 1,
            3, 40, 1, 0, 0,
            1, 50, 1, 1, NONE,
            0, NONE, 6, 10, 3, 0, NONE, -8,
            1, 0, 5, 11, 2, 1, 0, 9,
            -1, 2, -7, NONE, -1, -1, 0, -1));
        CHECK.due("digest() changes nothing", x.digest(), x.digest());
    }

    public static void main(String[] args) {
        newObject();
        asked();
        fractions();
        count();
        findings();
        digest();
        CHECK.end();
    }
}
