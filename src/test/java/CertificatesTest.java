/** Promises 18 to 26: CERTIFICATES, what rests on them, DRIFT and DUE. */
public final class CertificatesTest {
    private static final Check CHECK = new Check();
    private static final int BAD = BathBook.BAD, STATE = BathBook.STATE, NONE = BathBook.NONE;
    private static final int NOUGHT = 4;

    private static BathBook withBulbs(int... tolerances) {
        BathBook x = new BathBook();
        for (int tolerance : tolerances) {
            x.bulb(0, tolerance);
        }
        return x;
    }

    private static void certificateIs(BathBook x, int c, int... facts) {
        for (int what = 0; what < facts.length; what++) {
            CHECK.due("certificate(" + c + ", " + what + ")", x.certificate(c, what), facts[what]);
        }
    }

    private static void certify() {
        BathBook x = withBulbs(0, 0, 0);
        CHECK.refused("certify by one without any", x, STATE, () -> x.certify(1, 0, 0, 0, 0, 0));
        CHECK.due("certify by a fixed point", x.certify(0, NONE, 7, 50, -10000, 10000), 0);
        certificateIs(x, 0, 0, NONE, 7, 50, 10000, 0, NONE);
        CHECK.refused("certify on an earlier DAY", x, STATE, () -> x.certify(1, 0, 0, 49, 0, 0));
        CHECK.due("certify on the same DAY", x.certify(1, 0, 3, 50, 10000, 0), 1);
        certificateIs(x, 1, 1, 0, 3, 50, 0, 0, 0);
        CHECK.due("certify a later told, earlier one", x.certify(0, NONE, 6, 20, 1, 2), 2);
        CHECK.due("rests on the last told", x.certify(1, 0, 1, 100000, 0, 0), 3);
        CHECK.due("rests on 2", x.certificate(3, 6), 2);
        CHECK.due("rests on that of no later DAY", x.certify(2, 0, 1, 30, 0, 0), 4);
        CHECK.due("rests on 2 too", x.certificate(4, 6), 2);
        CHECK.due("certify a later one", x.certify(0, 1, 5, 100000, 0, 0), 5);
        CHECK.due("rests on 3", x.certificate(5, 6), 3);
        CHECK.due("passes over one of a later DAY", x.certify(2, 0, 1, 99999, 0, 0), 6);
        CHECK.due("rests on 2 still", x.certificate(6, 6), 2);
        CHECK.due("wrong", x.wrong(6, 20, 20), 5);
        CHECK.due("passes over VOID ones", x.certify(2, 0, 1, 99999, 0, 0), 7);
        CHECK.due("rests on 0", x.certificate(7, 6), 0);
        CHECK.refused("all of no later DAY VOID", x, STATE, () -> x.certify(2, 0, 1, 49, 0, 0));
        certifyRefusals(x);
    }

    private static void certifyRefusals(BathBook x) {
        CHECK.refused("certify(3, ..)", x, BAD, () -> x.certify(3, NONE, 0, 0, 0, 0));
        CHECK.refused("certify(-1, ..)", x, BAD, () -> x.certify(-1, NONE, 0, 0, 0, 0));
        CHECK.refused("certify(NONE, NONE, ..)", x, BAD, () -> x.certify(NONE, NONE, 0, 0, 0, 0));
        CHECK.refused("certify by 3", x, BAD, () -> x.certify(0, 3, 0, 0, 0, 0));
        CHECK.refused("certify by -1", x, BAD, () -> x.certify(0, -1, 0, 0, 0, 0));
        CHECK.refused("certify by itself", x, BAD, () -> x.certify(0, 0, 0, 60, 0, 0));
        CHECK.refused("certify bath 8", x, BAD, () -> x.certify(0, NONE, 8, 0, 0, 0));
        CHECK.refused("certify bath -1", x, BAD, () -> x.certify(0, NONE, -1, 0, 0, 0));
        CHECK.refused("certify day -1", x, BAD, () -> x.certify(0, NONE, 0, -1, 0, 0));
        CHECK.refused("certify day 100001", x, BAD, () -> x.certify(0, NONE, 0, 100001, 0, 0));
        CHECK.refused("certify offset 10001", x, BAD, () -> x.certify(0, NONE, 0, 0, 10001, 0));
        CHECK.refused("certify offset -10001", x, BAD, () -> x.certify(0, NONE, 0, 0, -10001, 0));
        CHECK.refused("certify end -1", x, BAD, () -> x.certify(0, NONE, 0, 0, 0, -1));
        CHECK.refused("certify end 10001", x, BAD, () -> x.certify(0, NONE, 0, 0, 0, 10001));
    }

    private static void certifyFull() {
        BathBook x = withBulbs(0, 0, 0);
        for (int i = 0; i < 40; i++) {
            CHECK.due("certify " + i, x.certify(i % 2, i == 0 ? NONE : 1 - i % 2, 0, i, 0, 10000), i);
        }
        CHECK.refused("certify full", x, BathBook.FULL, () -> x.certify(0, NONE, 0, 0, 0, 0));
        CHECK.refused("certify full ahead of STATE", x, BathBook.FULL, () -> x.certify(0, 2, 0, 0, 0, 0));
        CHECK.refused("certify BAD ahead of full", x, BAD, () -> x.certify(0, 0, 0, 0, 0, 0));
        CHECK.due("whole(39)", x.whole(39), 40);
        CHECK.due("whole(39) asked()", x.asked(), 4000000000L);
        CHECK.due("resting(0)", x.resting(0), 39);
        CHECK.due("wrong at the root", x.wrong(0, 0, 0), 40);
        CHECK.due("count(4)", x.count(4), 40);
    }

    private static void certificateAndOffset() {
        BathBook x = withBulbs(0);
        CHECK.refused("certificate(0, 0) of none", x, BAD, () -> x.certificate(0, 0));
        CHECK.refused("offset(0) of none", x, BAD, () -> x.offset(0));
        x.certify(0, NONE, 2, 3, -4, 5);
        certificateIs(x, 0, 0, NONE, 2, 3, 5, 0, NONE);
        CHECK.refused("certificate(0, 7)", x, BAD, () -> x.certificate(0, 7));
        CHECK.refused("certificate(0, -1)", x, BAD, () -> x.certificate(0, -1));
        CHECK.refused("certificate(1, 0)", x, BAD, () -> x.certificate(1, 0));
        CHECK.refused("certificate(-1, 0)", x, BAD, () -> x.certificate(-1, 0));
        CHECK.due("offset(0)", x.offset(0), 1);
        CHECK.due("offset(0) asked()", x.asked(), -4);
        CHECK.refused("offset(1)", x, BAD, () -> x.offset(1));
        CHECK.refused("offset(-1)", x, BAD, () -> x.offset(-1));
        x.wrong(2, 0, 100000);
        certificateIs(x, 0, 0, NONE, 2, 3, 5, 1, NONE);
        CHECK.due("offset of a VOID one", x.offset(0), 1);
    }

    private static void wrong() {
        BathBook x = withBulbs(0, 0, 0);
        CHECK.due("wrong of none", x.wrong(0, 0, 100000), 0);
        x.certify(0, NONE, 0, 10, 0, 0);
        x.certify(1, 0, 1, 20, 0, 0);
        x.certify(2, 1, 2, 30, 0, 0);
        x.certify(0, NONE, 1, 21, 0, 0);
        CHECK.due("wrong in another BATH", x.wrong(3, 0, 100000), 0);
        CHECK.due("wrong a DAY before", x.wrong(1, 0, 19), 0);
        CHECK.due("wrong a DAY behind", x.wrong(1, 22, 100000), 0);
        CHECK.due("wrong on the last DAY", x.wrong(1, 0, 20), 2);
        certificateIs(x, 0, 0, NONE, 0, 10, 0, 0);
        certificateIs(x, 1, 1, 0, 1, 20, 0, 1, 0);
        certificateIs(x, 2, 2, 1, 2, 30, 0, 1, 1);
        CHECK.due("wrong counts anew VOID ones alone", x.wrong(1, 20, 21), 1);
        CHECK.due("wrong again", x.wrong(1, 20, 21), 0);
        CHECK.due("count(4)", x.count(4), 3);
        CHECK.due("told after it was found wrong: not VOID", x.certify(1, 0, 1, 20, 0, 0), 4);
        CHECK.due("count(4) stays", x.count(4), 3);
        CHECK.due("wrong on the first DAY", x.wrong(1, 20, 100000), 1);
        CHECK.refused("wrong(8, ..)", x, BAD, () -> x.wrong(8, 0, 0));
        CHECK.refused("wrong(-1, ..)", x, BAD, () -> x.wrong(-1, 0, 0));
        CHECK.refused("wrong a above b", x, BAD, () -> x.wrong(0, 11, 10));
        CHECK.refused("wrong a -1", x, BAD, () -> x.wrong(0, -1, 10));
        CHECK.refused("wrong b 100001", x, BAD, () -> x.wrong(0, 0, 100001));
    }

    private static void passes() {
        BathBook x = withBulbs(10, 0);
        CHECK.refused("passes without any", x, STATE, () -> x.passes(0));
        x.certify(0, NONE, 0, 0, -4, 6);
        CHECK.due("passes at the TOLERANCE", x.passes(0), 1);
        x.certify(0, NONE, 1, 0, -4, 7);
        CHECK.due("passes above it", x.passes(0), 0);
        x.certify(0, NONE, 2, 0, 10, 0);
        CHECK.due("passes by OFFSET", x.passes(0), 1);
        x.wrong(2, 0, 0);
        CHECK.due("passes by THE LATEST", x.passes(0), 0);
        x.wrong(1, 0, 0);
        CHECK.due("passes by the first", x.passes(0), 1);
        x.wrong(0, 0, 0);
        CHECK.refused("passes with VOID ones alone", x, STATE, () -> x.passes(0));
        CHECK.refused("passes(2)", x, BAD, () -> x.passes(2));
        CHECK.refused("passes(-1)", x, BAD, () -> x.passes(-1));
    }

    private static void wholeAndResting() {
        BathBook x = withBulbs(0, 0, 0, 0);
        x.certify(0, NONE, 0, 0, 0, 3);
        x.certify(1, 0, 1, 0, 0, 4);
        x.certify(2, 0, 2, 0, 0, 5);
        x.certify(3, 1, 3, 0, 0, 12);
        x.certify(2, NONE, 4, 0, 0, 1);
        int[] chain = {1, 2, 2, 3, 1};
        long[] whole = {9, 25, 34, 169, 1};
        int[] resting = {3, 1, 0, 0, 0};
        for (int round = 0; round < 2; round++) {
            for (int c = 0; c < 5; c++) {
                CHECK.due("whole(" + c + ")", x.whole(c), chain[c]);
                CHECK.due("whole(" + c + ") asked()", x.asked(), whole[c]);
                CHECK.due("resting(" + c + ")", x.resting(c), resting[c]);
            }
            x.wrong(0, 0, 0);
        }
        CHECK.refused("whole(5)", x, BAD, () -> x.whole(5));
        CHECK.refused("whole(-1)", x, BAD, () -> x.whole(-1));
        CHECK.refused("whole(NONE)", x, BAD, () -> x.whole(NONE));
        CHECK.refused("resting(5)", x, BAD, () -> x.resting(5));
        CHECK.refused("resting(-1)", x, BAD, () -> x.resting(-1));
        CHECK.refused("resting(NONE)", x, BAD, () -> x.resting(NONE));
    }

    private static void drift() {
        BathBook x = withBulbs(0, 0);
        CHECK.refused("drift of none", x, STATE, () -> x.drift(0));
        x.certify(0, NONE, 0, 10, 5, 0);
        CHECK.refused("drift of one", x, STATE, () -> x.drift(0));
        x.certify(1, NONE, 0, 90, 5, 0);
        CHECK.refused("drift of one, and one of another BULB", x, STATE, () -> x.drift(0));
        x.certify(0, NONE, 1, 16, 9, 0);
        driftIs(x, 2, 3);
        x.certify(0, NONE, 2, 12, 11, 0);
        driftIs(x, -1, 2);
        x.certify(0, NONE, 3, 12, 12, 0);
        CHECK.found("drift of like DAYS", x, NOUGHT, () -> x.drift(0));
        x.wrong(2, 12, 12);
        driftIs(x, -3, 4);
        x.certify(0, NONE, 4, 100, 12, 0);
        driftIs(x, 0, 1);
        x.wrong(1, 0, 100000);
        x.wrong(3, 0, 100000);
        driftIs(x, 7, 90);
        x.wrong(4, 0, 100000);
        CHECK.refused("drift of one left", x, STATE, () -> x.drift(0));
        CHECK.refused("drift(2)", x, BAD, () -> x.drift(2));
        CHECK.refused("drift(-1)", x, BAD, () -> x.drift(-1));
    }

    private static void driftIs(BathBook x, long upper, long lower) {
        CHECK.due("drift(0)", x.drift(0), 1);
        CHECK.fraction("drift(0)", x, upper, lower);
    }

    /** DUE of a BULB with two CERTIFICATES, each a DAY, an OFFSET and an END. */
    private static void dueIs(int tolerance, int[] first, int[] last, int want) {
        BathBook x = withBulbs(tolerance);
        x.certify(0, NONE, 0, first[0], first[1], first[2]);
        x.certify(0, NONE, 0, last[0], last[1], last[2]);
        String call = "due by " + first[0] + " " + first[1] + ", " + last[0] + " " + last[1] + " " + last[2];
        CHECK.due(call, x.due(0), want);
        CHECK.fraction(call, x, 0, 1);
        CHECK.due(call + " asked()", x.asked(), 0);
    }

    private static int[] on(int day, int offset, int end) {
        return new int[] {day, offset, end};
    }

    private static void due() {
        dueIs(10, on(0, 0, 0), on(1, 1, 0), 11);
        dueIs(10, on(0, 0, 0), on(3, 1, 0), 31);
        dueIs(10, on(0, 0, 0), on(3, 1, 4), 19);
        dueIs(10, on(0, 0, 0), on(3, -1, 4), 19);
        dueIs(10, on(0, 9, 0), on(2, 5, 0), 10);
        dueIs(10, on(0, -9, 0), on(2, -5, 0), 10);
        dueIs(10, on(5, 0, 0), on(3, 6, 0), 9);
        dueIs(10, on(5, 0, 0), on(3, -6, 0), 9);
        dueIs(10, on(5, 3, 0), on(8, 3, 0), 100001);
        dueIs(10, on(1, 3, 0), on(0, 3, 0), 100001);
        dueIs(10, on(5, 3, 0), on(8, 11, 0), 8);
        dueIs(10, on(5, 3, 0), on(8, -11, 0), 8);
        dueIs(10, on(5, 3, 0), on(8, 3, 11), 8);
        dueIs(10, on(5, 0, 0), on(8, 0, 11), 8);
        dueIs(10, on(5, 0, 0), on(8, 10, 0), 9);
        dueIs(10, on(8, 0, 0), on(5, 10, 0), 12);
        dueIs(1, on(0, 0, 0), on(50000, 1, 0), 50001);
        dueIs(1, on(0, 0, 0), on(49999, 1, 0), 50000);
        dueIs(2, on(0, 0, 0), on(50000, 1, 0), 100001);
        dueIs(2, on(0, 0, 0), on(49999, 1, 0), 99999);
        dueIs(3, on(1, 0, 0), on(50001, 1, 0), 100001);
        dueIs(10000, on(0, -10000, 0), on(1, 10000, 0), 2);
        dueIs(10000, on(100000, 0, 0), on(0, 1, 0), 100001);
        dueIs(5, on(0, 0, 0), on(100000, 5, 0), 100001);
        dueIs(5, on(0, 0, 0), on(100000, 6, 0), 100000);
        dueIs(5, on(0, 0, 0), on(99999, 5, 0), 100000);
        dueRefusals();
    }

    private static void dueRefusals() {
        BathBook x = withBulbs(10);
        CHECK.refused("due of none", x, STATE, () -> x.due(0));
        x.certify(0, NONE, 0, 10, 5, 0);
        CHECK.refused("due of one", x, STATE, () -> x.due(0));
        x.certify(0, NONE, 1, 10, 6, 0);
        CHECK.found("due of like DAYS", x, NOUGHT, () -> x.due(0));
        CHECK.refused("due(1)", x, BAD, () -> x.due(1));
        CHECK.refused("due(-1)", x, BAD, () -> x.due(-1));
        x.certify(0, NONE, 2, 12, 8, 0);
        CHECK.due("due by the two last", x.due(0), 15);
        x.wrong(1, 10, 10);
        CHECK.due("due by those not VOID", x.due(0), 14);
    }

    public static void main(String[] args) {
        certify();
        certifyFull();
        certificateAndOffset();
        wrong();
        passes();
        wholeAndResting();
        drift();
        due();
        CHECK.end();
    }
}
