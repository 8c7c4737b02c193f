/** Promises 18 to 26, and the Terms on CERTIFICATES: what rests on them, what falls, DRIFT and DUE. */
public final class CertificatesTest {
    private static final int NONE = BathBook.NONE;
    private static final int NOUGHT = 4;
    private static final int LEAST = Integer.MIN_VALUE, GREATEST = Integer.MAX_VALUE;
    /** Of a busy book, which has five BULBS and five CERTIFICATES. */
    private static final int[] NO_NUMBERS = {-1, 5, 39, 40, NONE, LEAST, GREATEST};
    private static final int[] NO_BATHS = {-1, 8, NONE, LEAST, GREATEST};
    private static final int[] NO_DAYS = {-1, 100001, NONE, LEAST, GREATEST};

    static void all(Promises p) {
        terms(p);
        driftTerms(p);
        p.holds(18, "A CERTIFICATE: its number", CertificatesTest::certifyTellsNumber);
        p.holds(18, "by: a BULB, or NONE", CertificatesTest::certifyByBulbOrNone);
        p.holds(18, "BAD: also by itself", CertificatesTest::certifyBad);
        p.holds(18, "FULL", CertificatesTest::certifyFull);
        p.holds(18, "STATE", CertificatesTest::certifyState);
        p.holds(19, "0 its BULB, 1 that by which it is (NONE), 2 BATH, 3 DAY, 4 END", CertificatesTest::certificateFacts);
        p.holds(19, "5 whether it is VOID (1, 0), 6 on which it RESTS (NONE)", CertificatesTest::certificateVoidAndRest);
        p.holds(19, "BAD", CertificatesTest::certificateBad);
        p.holds(20, "OFFSET of a CERTIFICATE, told by asked(): 1", CertificatesTest::offsetTells);
        p.holds(20, "BAD", CertificatesTest::offsetBad);
        p.holds(21, "A BATH is found wrong from DAY a to b", CertificatesTest::wrongOnDays);
        p.holds(21, "how many CERTIFICATES became VOID", CertificatesTest::wrongCountsAnew);
        p.holds(21, "BAD: also a above b", CertificatesTest::wrongBad);
        p.holds(22, "Whether a BULB PASSES: 1, 0", CertificatesTest::passesOrNot);
        p.holds(22, "BAD", CertificatesTest::passesBad);
        p.holds(22, "STATE: it has no LATEST", CertificatesTest::passesState);
        p.holds(23, "WHOLE END of a CERTIFICATE, told by asked(): how many CERTIFICATES in its chain",
            CertificatesTest::wholeTells);
        p.holds(23, "BAD", CertificatesTest::wholeBad);
        p.holds(24, "DRIFT of a BULB, told by upper(), lower(): 1", CertificatesTest::driftTells);
        p.holds(24, "BAD", CertificatesTest::driftBad);
        p.holds(24, "STATE: not two such CERTIFICATES", CertificatesTest::driftState);
        p.holds(24, "NOUGHT: of like DAYS", CertificatesTest::driftNought);
        p.holds(25, "DUE of a BULB", CertificatesTest::dueTells);
        p.holds(25, "BAD", CertificatesTest::dueBad);
        p.holds(25, "STATE, NOUGHT as drift()", CertificatesTest::dueStateAndNought);
        p.holds(26, "How many CERTIFICATES rest on one, at whatever depth", CertificatesTest::restingCounts);
        p.holds(26, "(VOID ones, too)", CertificatesTest::restingVoidToo);
        p.holds(26, "BAD", CertificatesTest::restingBad);
    }

    private static void terms(Promises p) {
        p.terms("DAYS 0 .. 100000", CertificatesTest::dayEnds);
        p.terms("BATHS 0 .. 7", CertificatesTest::bathNumbers);
        p.terms("CERTIFICATES 0, 1, .. (40 at most)", CertificatesTest::certificateNumbers);
        p.terms("an OFFSET (-10000 .. 10000) and an END (0 .. 10000)", CertificatesTest::offsetsAndEnds);
        p.terms("the latest CERTIFICATE of the other BULB that was told before it", CertificatesTest::restsOnLastTold);
        p.terms("and is not of a later DAY", CertificatesTest::restsOnNoLaterDay);
        p.terms("and is not VOID as it is told", CertificatesTest::restsOnNoVoid);
        p.terms("(none: the BULB that it is by has none: STATE, but by a fixed point)", CertificatesTest::restsOnNone);
        p.terms("all CERTIFICATES in it on such a DAY are VOID", CertificatesTest::voidOnDays);
        p.terms("and all that rest on VOID ones are, too", CertificatesTest::voidByResting);
        p.terms("for good", CertificatesTest::voidForGood);
        p.terms("the last told one that is not VOID", CertificatesTest::latest);
        p.terms("if its OFFSET (without sign) and END are its TOLERANCE at most, together",
            CertificatesTest::passesAtTolerance);
        p.terms("the sum of the squares of its END and of those of all on which it rests", CertificatesTest::wholeEnds);
    }

    private static void driftTerms(Promises p) {
        p.terms("by its two last CERTIFICATES that are not VOID (of unlike DAYS)", CertificatesTest::driftOfTwoLast);
        p.terms("the later told one less the other, by its DAY less the other's", CertificatesTest::driftSigns);
        p.terms("the first DAY, from that of THE LATEST on", CertificatesTest::dueFromLatestOn);
        p.terms("without sign and its END are more than the TOLERANCE", CertificatesTest::dueAboveTolerance);
        p.terms("100001, if none until then", CertificatesTest::dueNever);
    }

    /** A BULB's CERTIFICATE by a fixed point with nothing else to it. */
    private static int plain(BathBook x, int bulb, int bath, int day) {
        return x.certify(bulb, NONE, bath, day, 0, 0);
    }

    private static void restIs(Check check, BathBook x, int c, int rest) {
        check.due("certificate(" + c + ", 6)", x.certificate(c, 6), rest);
    }

    private static void voidAre(Check check, BathBook x, int... isVoid) {
        int sum = 0;
        for (int c = 0; c < isVoid.length; c++) {
            check.due("certificate(" + c + ", 5)", x.certificate(c, 5), isVoid[c]);
            sum += isVoid[c];
        }
        check.due("count(4)", x.count(4), sum);
    }

    private static BathBook withForty() {
        BathBook x = Books.withBulbs(0, 0, 0);
        for (int i = 0; i < 40; i++) {
            x.certify(i % 2, i == 0 ? NONE : 1 - i % 2, 0, i, 0, 10000);
        }
        return x;
    }

    // ---- Terms

    private static void dayEnds(Check check) {
        BathBook x = Books.withBulbs(0);
        check.due("certify on DAY 0", plain(x, 0, 0, 0), 0);
        check.due("certify on DAY 100000", plain(x, 0, 0, 100000), 1);
        check.due("certify on DAY -1", plain(x, 0, 0, -1), BathBook.BAD);
        check.due("certify on DAY 100001", plain(x, 0, 0, 100001), BathBook.BAD);
        check.due("wrong(0, 0, 100000)", x.wrong(0, 0, 100000), 2);
    }

    private static void bathNumbers(Check check) {
        BathBook x = Books.withBulbs(0);
        for (int bath = 0; bath < 8; bath++) {
            check.due("certify in BATH " + bath, plain(x, 0, bath, 5), bath);
            check.due("certificate(" + bath + ", 2)", x.certificate(bath, 2), bath);
        }
        for (int bath = 0; bath < 8; bath++) {
            check.due("wrong(" + bath + ", 5, 5)", x.wrong(bath, 5, 5), 1);
        }
    }

    private static void certificateNumbers(Check check) {
        BathBook x = Books.withBulbs(0, 0);
        for (int i = 0; i < 40; i++) {
            check.due("certify " + i, plain(x, i % 2, i % 8, 1000 + i), i);
        }
        check.due("certify 40", plain(x, 0, 0, 0), BathBook.FULL);
        check.due("count(3)", x.count(3), 40);
        for (int i = 0; i < 40; i++) {
            check.due("certificate(" + i + ", 3)", x.certificate(i, 3), 1000 + i);
        }
        check.due("certificate(40, 3)", x.certificate(40, 3), BathBook.BAD);
    }

    private static void offsetsAndEnds(Check check) {
        BathBook x = Books.withBulbs(0);
        int[][] ends = {{-10000, 0}, {10000, 10000}, {0, 0}, {NONE, 9}};
        for (int c = 0; c < ends.length; c++) {
            check.due("certify " + c, x.certify(0, NONE, 0, 0, ends[c][0], ends[c][1]), c);
            check.due("offset(" + c + ")", x.offset(c), 1);
            check.due("offset(" + c + ") asked()", x.asked(), ends[c][0]);
            check.due("certificate(" + c + ", 4)", x.certificate(c, 4), ends[c][1]);
        }
    }

    private static void restsOnLastTold(Check check) {
        BathBook x = Books.withBulbs(0, 0);
        plain(x, 0, 0, 50);
        plain(x, 0, 0, 20);
        check.due("certify by 0", x.certify(1, 0, 0, 60, 0, 0), 2);
        restIs(check, x, 2, 1);
        plain(x, 0, 0, 60);
        restIs(check, x, 2, 1);
        check.due("certify by 0 again", x.certify(1, 0, 0, 60, 0, 0), 4);
        restIs(check, x, 4, 3);
        check.due("certify 0 by 1", x.certify(0, 1, 0, 100000, 0, 0), 5);
        restIs(check, x, 5, 4);
    }

    private static void restsOnNoLaterDay(Check check) {
        BathBook x = Books.withBulbs(0, 0);
        plain(x, 0, 0, 20);
        plain(x, 0, 0, 50);
        check.due("certify on DAY 49", x.certify(1, 0, 0, 49, 0, 0), 2);
        restIs(check, x, 2, 0);
        check.due("certify on DAY 50", x.certify(1, 0, 0, 50, 0, 0), 3);
        restIs(check, x, 3, 1);
        check.due("certify on DAY 20", x.certify(1, 0, 0, 20, 0, 0), 4);
        restIs(check, x, 4, 0);
        check.due("certify on DAY 19", x.certify(1, 0, 0, 19, 0, 0), BathBook.STATE);
    }

    private static void restsOnNoVoid(Check check) {
        BathBook x = Books.withBulbs(0, 0);
        plain(x, 0, 0, 20);
        plain(x, 0, 1, 20);
        x.certify(1, 0, 2, 20, 0, 0);
        x.wrong(1, 20, 20);
        check.due("certify over a VOID one", x.certify(1, 0, 2, 20, 0, 0), 3);
        restIs(check, x, 3, 0);
        restIs(check, x, 2, 1);
        x.wrong(0, 20, 20);
        restIs(check, x, 3, 0);
        check.due("certify with VOID ones alone", x.certify(1, 0, 2, 20, 0, 0), BathBook.STATE);
    }

    private static void restsOnNone(Check check) {
        BathBook x = Books.withBulbs(0, 0);
        check.due("certify(1, 0, ..), 0 has none", x.certify(1, 0, 0, 9, 0, 0), BathBook.STATE);
        check.due("certify(1, NONE, ..)", plain(x, 1, 0, 9), 0);
        restIs(check, x, 0, NONE);
        check.due("certify(1, 0, ..), 0 has none still", x.certify(1, 0, 0, 9, 0, 0), BathBook.STATE);
        check.due("certify(0, 1, ..)", x.certify(0, 1, 0, 9, 0, 0), 1);
        restIs(check, x, 1, 0);
    }

    private static void voidOnDays(Check check) {
        BathBook x = Books.withBulbs(0);
        for (int day = 10; day < 15; day++) {
            plain(x, 0, 3, day);
        }
        plain(x, 0, 4, 12);
        check.due("wrong(3, 11, 13)", x.wrong(3, 11, 13), 3);
        voidAre(check, x, 0, 1, 1, 1, 0, 0);
        check.due("wrong(3, 0, 9)", x.wrong(3, 0, 9), 0);
        check.due("wrong(3, 15, 100000)", x.wrong(3, 15, 100000), 0);
        check.due("wrong(3, 0, 10)", x.wrong(3, 0, 10), 1);
        check.due("wrong(3, 14, 100000)", x.wrong(3, 14, 100000), 1);
        voidAre(check, x, 1, 1, 1, 1, 1, 0);
    }

    private static void voidByResting(Check check) {
        BathBook x = Books.withBulbs(0, 0, 0, 0);
        plain(x, 0, 0, 10);
        x.certify(1, 0, 1, 20, 0, 0);
        x.certify(2, 1, 2, 30, 0, 0);
        x.certify(3, 2, 3, 40, 0, 0);
        plain(x, 1, 4, 50);
        check.due("wrong in the midst", x.wrong(1, 20, 20), 3);
        voidAre(check, x, 0, 1, 1, 1, 0);
        BathBook chain = withForty();
        check.due("wrong under a chain of 40", chain.wrong(0, 0, 0), 40);
        check.due("count(4)", chain.count(4), 40);
    }

    private static void voidForGood(Check check) {
        BathBook x = Books.withBulbs(0, 0);
        plain(x, 0, 0, 10);
        x.certify(1, 0, 1, 10, 0, 0);
        check.due("wrong(0, 10, 10)", x.wrong(0, 10, 10), 2);
        check.due("a new one of 0, found right", plain(x, 0, 2, 10), 2);
        check.due("wrong(7, 0, 100000), another BATH", x.wrong(7, 0, 100000), 0);
        voidAre(check, x, 1, 1, 0);
        check.due("one told after, in that BATH on that DAY", plain(x, 0, 0, 10), 3);
        voidAre(check, x, 1, 1, 0, 0);
    }

    private static void latest(Check check) {
        BathBook x = Books.withBulbs(0, 0);
        plain(x, 0, 0, 90);
        plain(x, 0, 1, 10);
        plain(x, 1, 0, 95);
        check.due("told(0, 4), not by DAY", x.told(0, 4), 1);
        x.wrong(1, 10, 10);
        check.due("told(0, 4), not VOID", x.told(0, 4), 0);
        x.wrong(0, 90, 90);
        check.due("told(0, 4), none", x.told(0, 4), NONE);
        plain(x, 0, 1, 10);
        check.due("told(0, 4), a new one", x.told(0, 4), 3);
    }

    private static void passesIs(Check check, int tolerance, int offset, int end, int want) {
        BathBook x = Books.withBulbs(tolerance);
        x.certify(0, NONE, 0, 0, offset, end);
        check.due("passes of " + offset + " and " + end + " by " + tolerance, x.passes(0), want);
    }

    private static void passesAtTolerance(Check check) {
        passesIs(check, 10, 4, 6, 1);
        passesIs(check, 10, -4, 6, 1);
        passesIs(check, 10, 4, 7, 0);
        passesIs(check, 10, -4, 7, 0);
        passesIs(check, 10, -11, 0, 0);
        passesIs(check, 0, 0, 0, 1);
        passesIs(check, 0, 1, 0, 0);
        passesIs(check, 0, 0, 1, 0);
        passesIs(check, 10000, -10000, 0, 1);
        passesIs(check, 10000, -10000, 1, 0);
        passesIs(check, 10000, 10000, 10000, 0);
    }

    private static void wholeEnds(Check check) {
        BathBook x = withForty();
        check.due("whole(0)", x.whole(0), 1);
        check.due("whole(0) asked()", x.asked(), 100000000L);
        check.due("whole(39)", x.whole(39), 40);
        check.due("whole(39) asked(), above an int", x.asked(), 4000000000L);
        BathBook none = Books.withBulbs(0);
        plain(none, 0, 0, 0);
        check.due("whole of an END of 0", none.whole(0), 1);
        check.due("whole of an END of 0 asked()", none.asked(), 0);
    }

    private static void driftOfTwoLast(Check check) {
        BathBook x = Books.withBulbs(0, 0);
        x.certify(0, NONE, 0, 10, 5, 0);
        x.certify(0, NONE, 1, 16, 9, 0);
        x.certify(1, NONE, 0, 90, 5, 0);
        driftIs(check, x, 2, 3);
        x.certify(0, NONE, 2, 12, 11, 0);
        driftIs(check, x, -1, 2);
        x.wrong(2, 12, 12);
        driftIs(check, x, 2, 3);
        x.certify(0, NONE, 4, 100, 12, 0);
        driftIs(check, x, 1, 28);
        x.wrong(1, 0, 100000);
        driftIs(check, x, 7, 90);
    }

    private static void driftIs(Check check, BathBook x, long upper, long lower) {
        check.due("drift(0)", x.drift(0), 1);
        check.fraction("drift(0)", x, upper, lower);
    }

    /** A BULB with two CERTIFICATES, each a DAY, an OFFSET and an END. */
    private static BathBook withTwo(int tolerance, int[] first, int[] last) {
        BathBook x = Books.withBulbs(tolerance);
        x.certify(0, NONE, 0, first[0], first[1], first[2]);
        x.certify(0, NONE, 1, last[0], last[1], last[2]);
        return x;
    }

    private static int[] on(int day, int offset, int end) {
        return new int[] {day, offset, end};
    }

    private static void driftSigns(Check check) {
        driftIs(check, withTwo(0, on(0, 0, 0), on(4, 6, 0)), 3, 2);
        driftIs(check, withTwo(0, on(0, 6, 0), on(4, 0, 0)), -3, 2);
        driftIs(check, withTwo(0, on(4, 0, 0), on(0, 6, 0)), -3, 2);
        driftIs(check, withTwo(0, on(4, 6, 0), on(0, 0, 0)), 3, 2);
        driftIs(check, withTwo(0, on(4, 6, 0), on(0, 6, 0)), 0, 1);
        driftIs(check, withTwo(0, on(1, 0, 0), on(0, 5, 0)), -5, 1);
        driftIs(check, withTwo(0, on(0, -10000, 0), on(1, 10000, 0)), 20000, 1);
        driftIs(check, withTwo(0, on(0, 0, 0), on(100000, 1, 0)), 1, 100000);
    }

    private static void dueIs(Check check, int tolerance, int[] first, int[] last, int want) {
        BathBook x = withTwo(tolerance, first, last);
        String call = "due by " + first[0] + " " + first[1] + ", " + last[0] + " " + last[1] + " " + last[2];
        check.due(call, x.due(0), want);
    }

    private static void dueFromLatestOn(Check check) {
        dueIs(check, 10, on(5, 3, 0), on(8, 11, 0), 8);
        dueIs(check, 10, on(5, 3, 0), on(8, -11, 0), 8);
        dueIs(check, 10, on(5, 3, 0), on(8, 3, 11), 8);
        dueIs(check, 10, on(5, 0, 0), on(8, 10, 0), 9);
        dueIs(check, 10, on(8, 0, 0), on(5, 10, 0), 12);
        dueIs(check, 10, on(9, 99, 0), on(0, 11, 0), 0);
        dueIs(check, 10, on(0, 99, 0), on(100000, 11, 0), 100000);
        dueIs(check, 10000, on(0, -10000, 0), on(1, 10000, 0), 2);
    }

    private static void dueAboveTolerance(Check check) {
        dueIs(check, 10, on(0, 0, 0), on(1, 1, 0), 11);
        dueIs(check, 10, on(0, 0, 0), on(3, 1, 0), 31);
        dueIs(check, 10, on(0, 0, 0), on(3, 1, 4), 19);
        dueIs(check, 10, on(0, 0, 0), on(3, -1, 4), 19);
        dueIs(check, 10, on(0, 9, 0), on(2, 5, 0), 10);
        dueIs(check, 10, on(0, -9, 0), on(2, -5, 0), 10);
        dueIs(check, 10, on(5, 0, 0), on(3, 6, 0), 9);
        dueIs(check, 10, on(5, 0, 0), on(3, -6, 0), 9);
        dueIs(check, 1, on(0, 0, 0), on(50000, 1, 0), 50001);
        dueIs(check, 0, on(1, 1, 0), on(2, 0, 0), 3);
    }

    private static void dueNever(Check check) {
        dueIs(check, 10, on(5, 3, 0), on(8, 3, 0), 100001);
        dueIs(check, 10, on(1, 10, 0), on(0, 10, 0), 100001);
        dueIs(check, 2, on(0, 0, 0), on(49999, 1, 0), 99999);
        dueIs(check, 2, on(0, 0, 0), on(50000, 1, 0), 100001);
        dueIs(check, 3, on(1, 0, 0), on(50001, 1, 0), 100001);
        dueIs(check, 5, on(0, 0, 0), on(99999, 5, 0), 100000);
        dueIs(check, 5, on(0, 0, 0), on(100000, 5, 0), 100001);
        dueIs(check, 5, on(0, 0, 0), on(100000, 6, 0), 100000);
        dueIs(check, 10000, on(100000, 0, 0), on(0, 1, 0), 100001);
    }

    // ---- promise 18

    private static void certifyTellsNumber(Check check) {
        BathBook x = Books.busy();
        check.due("certify(4, 0, 7, 60, 1, 2)", x.certify(4, 0, 7, 60, 1, 2), 5);
        check.due("certify(4, NONE, 0, 0, 0, 0)", x.certify(4, NONE, 0, 0, 0, 0), 6);
        check.due("count(3)", x.count(3), 7);
        check.due("told(4, 2)", x.told(4, 2), 2);
        check.due("told(4, 4)", x.told(4, 4), 6);
    }

    private static void certifyByBulbOrNone(Check check) {
        BathBook x = Books.busy();
        for (int by = 0; by < 4; by++) {
            check.due("certify(4, " + by + ", ..)", x.certify(4, by, 0, 60, 0, 0), 5 + by);
            check.due("certificate(.., 1)", x.certificate(5 + by, 1), by);
        }
        check.due("certify(4, NONE, ..)", x.certify(4, NONE, 0, 60, 0, 0), 9);
        check.due("certificate(9, 1)", x.certificate(9, 1), NONE);
    }

    private static void certifyBad(Check check) {
        Check.Given busy = check.given(Books::busy);
        for (int bulb : NO_NUMBERS) {
            busy.bad("certify(" + bulb + ", NONE, ..)", b -> b.certify(bulb, NONE, 0, 60, 0, 0));
            if (bulb != NONE) {
                busy.bad("certify(0, " + bulb + ", ..)", b -> b.certify(0, bulb, 0, 60, 0, 0));
            }
        }
        for (int bulb = 0; bulb < 5; bulb++) {
            final int same = bulb;
            busy.bad("certify(" + bulb + ", " + bulb + ", ..), by itself", b -> b.certify(same, same, 0, 60, 0, 0));
        }
        certifyBadNumbers(busy);
        Check.Given forty = check.given(CertificatesTest::withForty);
        forty.bad("certify(0, 0, ..), ahead of FULL", b -> b.certify(0, 0, 0, 60, 0, 0));
        forty.bad("certify(0, 2, 8, ..), ahead of FULL", b -> b.certify(0, 2, 8, 60, 0, 0));
        busy.bad("certify(0, 4, 8, ..), ahead of STATE", b -> b.certify(0, 4, 8, 60, 0, 0));
    }

    private static void certifyBadNumbers(Check.Given busy) {
        for (int bath : NO_BATHS) {
            busy.bad("certify in BATH " + bath, b -> b.certify(0, NONE, bath, 60, 0, 0));
        }
        for (int day : NO_DAYS) {
            busy.bad("certify on DAY " + day, b -> b.certify(0, NONE, 0, day, 0, 0));
        }
        for (int offset : new int[] {-10001, 10001, LEAST, GREATEST}) {
            busy.bad("certify OFFSET " + offset, b -> b.certify(0, NONE, 0, 60, offset, 0));
        }
        for (int end : new int[] {-1, 10001, NONE, LEAST, GREATEST}) {
            busy.bad("certify END " + end, b -> b.certify(0, NONE, 0, 60, 0, end));
        }
    }

    private static void certifyFull(Check check) {
        Check.Given forty = check.given(CertificatesTest::withForty);
        forty.full("certify(0, NONE, ..)", b -> b.certify(0, NONE, 0, 0, 0, 0));
        forty.full("certify(0, 1, ..)", b -> b.certify(0, 1, 0, 100000, 0, 0));
        forty.full("certify(0, 2, ..), ahead of STATE", b -> b.certify(0, 2, 0, 0, 0, 0));
        Check.Given fallen = check.given(() -> {
            BathBook b = withForty();
            b.wrong(0, 0, 100000);
            return b;
        });
        fallen.full("certify with 40 VOID ones", b -> b.certify(0, NONE, 0, 0, 0, 0));
    }

    private static void certifyState(Check check) {
        Check.Given busy = check.given(Books::busy);
        busy.state("certify(0, 4, ..), 4 has none", b -> b.certify(0, 4, 0, 100000, 0, 0));
        busy.state("certify(4, 3, ..) on a DAY before", b -> b.certify(4, 3, 0, 9, 0, 0));
        Check.Given fallen = check.given(() -> {
            BathBook b = Books.busy();
            b.wrong(0, 10, 10);
            return b;
        });
        fallen.state("certify(4, 3, ..), all VOID", b -> b.certify(4, 3, 0, 60, 0, 0));
        fallen.state("certify(4, 0, ..), all VOID", b -> b.certify(4, 0, 0, 60, 0, 0));
        BathBook x = Books.busy();
        check.due("certify(4, 3, ..) on the same DAY", x.certify(4, 3, 0, 10, 0, 0), 5);
    }

    // ---- promises 19 and 20

    private static void certificateFacts(Check check) {
        BathBook x = Books.busy();
        int[][] facts = {{3, NONE, 0, 10, 2}, {2, 3, 1, 20, 4}, {1, 2, 2, 30, 5}, {0, 1, 3, 40, 6}, {0, 3, 4, 50, 1}};
        for (int c = 0; c < facts.length; c++) {
            for (int what = 0; what < 5; what++) {
                check.due("certificate(" + c + ", " + what + ")", x.certificate(c, what), facts[c][what]);
            }
        }
        check.due("certificate tells nothing by asked()", x.asked(), 6);
    }

    private static void certificateVoidAndRest(Check check) {
        BathBook x = Books.busy();
        int[] rests = {NONE, 0, 1, 2, 0};
        for (int c = 0; c < rests.length; c++) {
            restIs(check, x, c, rests[c]);
        }
        voidAre(check, x, 0, 0, 0, 0, 1);
        x.wrong(2, 30, 30);
        voidAre(check, x, 0, 0, 1, 1, 1);
        restIs(check, x, 3, 2);
    }

    private static void certificateBad(Check check) {
        Check.Given busy = check.given(Books::busy);
        for (int c : NO_NUMBERS) {
            busy.bad("certificate(" + c + ", 0)", b -> b.certificate(c, 0));
        }
        for (int what : new int[] {-1, 7, 8, NONE, LEAST, GREATEST}) {
            busy.bad("certificate(0, " + what + ")", b -> b.certificate(0, what));
        }
        check.given(BathBook::new).bad("certificate(0, 0) of a new book", b -> b.certificate(0, 0));
    }

    private static void offsetTells(Check check) {
        BathBook x = Books.busy();
        int[] offsets = {6, -3, 5, 2, 9};
        for (int c = 0; c < offsets.length; c++) {
            check.due("offset(" + c + ")", x.offset(c), 1);
            check.due("offset(" + c + ") asked()", x.asked(), offsets[c]);
        }
        check.fraction("offset tells no fraction", x, -5, 3);
    }

    private static void offsetBad(Check check) {
        Check.Given busy = check.given(Books::busy);
        for (int c : NO_NUMBERS) {
            busy.bad("offset(" + c + ")", b -> b.offset(c));
        }
        check.given(BathBook::new).bad("offset(0) of a new book", b -> b.offset(0));
    }

    // ---- promise 21

    private static void wrongIs(Check check, int bath, int a, int b, int want) {
        check.due("wrong(" + bath + ", " + a + ", " + b + ")", Books.busy().wrong(bath, a, b), want);
    }

    private static void wrongOnDays(Check check) {
        wrongIs(check, 3, 40, 40, 1);
        wrongIs(check, 3, 0, 39, 0);
        wrongIs(check, 3, 0, 40, 1);
        wrongIs(check, 3, 41, 100000, 0);
        wrongIs(check, 3, 40, 100000, 1);
        wrongIs(check, 7, 0, 100000, 0);
        check.due("wrong of a new book", new BathBook().wrong(0, 0, 100000), 0);
        BathBook ends = Books.withBulbs(0);
        plain(ends, 0, 7, 0);
        plain(ends, 0, 7, 100000);
        check.due("wrong(7, 0, 0)", ends.wrong(7, 0, 0), 1);
        check.due("wrong(7, 100000, 100000)", ends.wrong(7, 100000, 100000), 1);
    }

    private static void wrongCountsAnew(Check check) {
        BathBook x = Books.busy();
        check.due("wrong(4, 0, 100000), VOID already", x.wrong(4, 0, 100000), 0);
        check.due("wrong(1, 20, 20), three of a chain", x.wrong(1, 20, 20), 3);
        check.due("wrong(1, 20, 20) again", x.wrong(1, 20, 20), 0);
        check.due("wrong(0, 10, 10), the rest", x.wrong(0, 10, 10), 1);
        check.due("count(4)", x.count(4), 5);
        check.due("wrong tells nothing by asked()", x.asked(), 6);
    }

    private static void wrongBad(Check check) {
        Check.Given busy = check.given(Books::busy);
        for (int bath : NO_BATHS) {
            busy.bad("wrong(" + bath + ", 0, 100000)", b -> b.wrong(bath, 0, 100000));
        }
        for (int day : NO_DAYS) {
            busy.bad("wrong(0, " + day + ", 100000)", b -> b.wrong(0, day, 100000));
            busy.bad("wrong(0, 0, " + day + ")", b -> b.wrong(0, 0, day));
        }
        busy.bad("wrong(0, 11, 10)", b -> b.wrong(0, 11, 10));
        busy.bad("wrong(0, 100000, 0)", b -> b.wrong(0, 100000, 0));
    }

    // ---- promises 22 and 23

    private static void passesOrNot(Check check) {
        BathBook x = Books.withBulbs(10);
        x.certify(0, NONE, 0, 9, -4, 6);
        check.due("passes(0)", x.passes(0), 1);
        x.certify(0, NONE, 1, 0, -4, 7);
        check.due("passes(0) by the last told", x.passes(0), 0);
        x.certify(0, NONE, 2, 0, 10, 0);
        check.due("passes(0) by the third", x.passes(0), 1);
        x.wrong(2, 0, 0);
        check.due("passes(0), the third being VOID", x.passes(0), 0);
        x.wrong(1, 0, 0);
        check.due("passes(0), the second, too", x.passes(0), 1);
    }

    private static void passesBad(Check check) {
        Check.Given busy = check.given(Books::busy);
        for (int bulb : NO_NUMBERS) {
            busy.bad("passes(" + bulb + ")", b -> b.passes(bulb));
        }
    }

    private static void passesState(Check check) {
        check.given(Books::busy).state("passes(4) without any", b -> b.passes(4));
        Check.Given fallen = check.given(() -> {
            BathBook b = Books.busy();
            b.wrong(0, 10, 10);
            return b;
        });
        for (int bulb = 0; bulb < 4; bulb++) {
            final int of = bulb;
            fallen.state("passes(" + bulb + ") with VOID ones alone", b -> b.passes(of));
        }
    }

    private static BathBook twoChains() {
        BathBook x = Books.withBulbs(0, 0, 0, 0);
        x.certify(0, NONE, 0, 0, 0, 3);
        x.certify(1, 0, 1, 0, 0, 4);
        x.certify(2, 0, 2, 0, 0, 5);
        x.certify(3, 1, 3, 0, 0, 12);
        x.certify(2, NONE, 4, 0, 0, 1);
        return x;
    }

    private static void wholeTells(Check check) {
        BathBook x = twoChains();
        int[] chain = {1, 2, 2, 3, 1};
        long[] whole = {9, 25, 34, 169, 1};
        for (int round = 0; round < 2; round++) {
            for (int c = 0; c < 5; c++) {
                check.due("whole(" + c + ")", x.whole(c), chain[c]);
                check.due("whole(" + c + ") asked()", x.asked(), whole[c]);
            }
            x.wrong(0, 0, 0);
        }
        check.fraction("whole tells no fraction", x, 0, 1);
    }

    private static void wholeBad(Check check) {
        Check.Given busy = check.given(Books::busy);
        for (int c : NO_NUMBERS) {
            busy.bad("whole(" + c + ")", b -> b.whole(c));
        }
        check.given(BathBook::new).bad("whole(0) of a new book", b -> b.whole(0));
    }

    // ---- promises 24 and 25

    private static void driftTells(Check check) {
        BathBook x = withTwo(10, on(10, 1, 0), on(16, 5, 0));
        driftIs(check, x, 2, 3);
        check.due("drift tells nothing by asked()", x.asked(), 0);
    }

    private static void driftBad(Check check) {
        Check.Given busy = check.given(Books::busy);
        for (int bulb : NO_NUMBERS) {
            busy.bad("drift(" + bulb + ")", b -> b.drift(bulb));
        }
    }

    /** Two of BULB 0 on unlike DAYS, of which the one in this BATH (0 the first) is VOID. */
    private static BathBook oneFallen(int bath) {
        BathBook x = withTwo(10, on(10, 1, 0), on(16, 5, 0));
        x.wrong(bath, 0, 100000);
        return x;
    }

    private static BathBook alikeDays() {
        BathBook x = withTwo(10, on(3, 1, 0), on(16, 5, 0));
        x.certify(0, NONE, 2, 16, 7, 0);
        return x;
    }

    private static void driftState(Check check) {
        Check.Given busy = check.given(Books::busy);
        busy.state("drift(4) of none", b -> b.drift(4));
        busy.state("drift(3) of one", b -> b.drift(3));
        busy.state("drift(0) of one and a VOID one", b -> b.drift(0));
        check.given(() -> oneFallen(0)).state("drift(0), the first VOID", b -> b.drift(0));
        check.given(() -> oneFallen(1)).state("drift(0), the second VOID", b -> b.drift(0));
    }

    private static void driftNought(Check check) {
        check.given(CertificatesTest::alikeDays).finds(NOUGHT, "drift(0)", b -> b.drift(0));
        BathBook x = alikeDays();
        x.wrong(2, 16, 16);
        driftIs(check, x, 4, 13);
    }

    private static void dueTells(Check check) {
        BathBook x = withTwo(10, on(10, 5, 0), on(10, 6, 0));
        x.certify(0, NONE, 2, 12, 8, 0);
        check.due("due(0) by the two last", x.due(0), 15);
        x.wrong(1, 10, 10);
        check.due("due(0) by those not VOID", x.due(0), 14);
        check.fraction("due tells no fraction", x, 0, 1);
        check.due("due tells nothing by asked()", x.asked(), 0);
    }

    private static void dueBad(Check check) {
        Check.Given busy = check.given(Books::busy);
        for (int bulb : NO_NUMBERS) {
            busy.bad("due(" + bulb + ")", b -> b.due(bulb));
        }
    }

    private static void dueStateAndNought(Check check) {
        Check.Given busy = check.given(Books::busy);
        busy.state("due(4) of none", b -> b.due(4));
        busy.state("due(3) of one", b -> b.due(3));
        busy.state("due(0) of one and a VOID one", b -> b.due(0));
        check.given(() -> oneFallen(0)).state("due(0), the first VOID", b -> b.due(0));
        check.given(() -> oneFallen(1)).state("due(0), the second VOID", b -> b.due(0));
        check.given(CertificatesTest::alikeDays).finds(NOUGHT, "due(0)", b -> b.due(0));
    }

    // ---- promise 26

    private static void restingAre(Check check, BathBook x, int... resting) {
        for (int c = 0; c < resting.length; c++) {
            check.due("resting(" + c + ")", x.resting(c), resting[c]);
        }
    }

    private static void restingCounts(Check check) {
        restingAre(check, twoChains(), 3, 1, 0, 0, 0);
        BathBook forty = withForty();
        check.due("resting(0) of 40", forty.resting(0), 39);
        check.due("resting(38) of 40", forty.resting(38), 1);
        check.due("resting(39) of 40", forty.resting(39), 0);
    }

    private static void restingVoidToo(Check check) {
        BathBook x = twoChains();
        x.wrong(3, 0, 0);
        restingAre(check, x, 3, 1, 0, 0, 0);
        x.wrong(0, 0, 0);
        restingAre(check, x, 3, 1, 0, 0, 0);
    }

    private static void restingBad(Check check) {
        Check.Given busy = check.given(Books::busy);
        for (int c : NO_NUMBERS) {
            busy.bad("resting(" + c + ")", b -> b.resting(c));
        }
        check.given(BathBook::new).bad("resting(0) of a new book", b -> b.resting(0));
    }

    public static void main(String[] args) {
        Promises p = Promises.tested();
        all(p);
        p.end();
    }
}
