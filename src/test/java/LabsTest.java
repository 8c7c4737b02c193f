/** Promises 27 to 29, and the Terms on rounds of LABS. */
public final class LabsTest {
    private static final int LEAST = Integer.MIN_VALUE, GREATEST = Integer.MAX_VALUE;
    private static final int[] NO_LABS = {-1, 6, BathBook.NONE, LEAST, GREATEST};

    static void all(Promises p) {
        p.terms("LABS 0 .. 5 tell DIFFERENCES", LabsTest::labNumbers);
        p.terms("of two (the one less the other), each with an END", LabsTest::differencesWithEnds);
        p.terms("add to no more (without sign) than their ENDS do", LabsTest::closesAtTheEnds);
        p.holds(27, "LAB a's DIFFERENCE to LAB b is v (-10000 .. 10000) with an END (0 .. 10000): 1", LabsTest::labEnds);
        p.holds(27, "BAD: also the same one", LabsTest::labBad);
        p.holds(27, "(That of b to a is less v then.)", LabsTest::labBothWays);
        p.holds(28, "Whether a ring of three LABS CLOSES: 1, 0", LabsTest::closesOrNot);
        p.holds(28, "by how much it does not add to 0 by asked()", LabsTest::closesTells);
        p.holds(28, "BAD: also two alike", LabsTest::closesBad);
        p.holds(28, "STATE: a DIFFERENCE was not told", LabsTest::closesState);
        p.holds(29, "How many rings of three (each set of three once) do not CLOSE", LabsTest::openCounts);
        p.holds(29, "of those of which all is told", LabsTest::openOfTold);
    }

    private static void closesIs(Check check, BathBook x, int[] ring, int answer, long gap) {
        String call = "closes(" + ring[0] + ", " + ring[1] + ", " + ring[2] + ")";
        check.due(call, x.closes(ring[0], ring[1], ring[2]), answer);
        check.due(call + " asked()", x.asked(), gap);
    }

    private static int[] ring(int a, int b, int c) {
        return new int[] {a, b, c};
    }

    /** LABS 0, 1, 2 with these DIFFERENCES round the ring, and ENDS that add to room. */
    private static BathBook withRing(int first, int second, int third, int room) {
        BathBook x = new BathBook();
        x.lab(0, 1, first, room / 3);
        x.lab(1, 2, second, (room + 1) / 3);
        x.lab(2, 0, third, (room + 2) / 3);
        return x;
    }

    private static BathBook withAllTold(int v, int end) {
        BathBook x = new BathBook();
        for (int a = 0; a < 6; a++) {
            for (int b = a + 1; b < 6; b++) {
                x.lab(a, b, v, end);
            }
        }
        return x;
    }

    // ---- Terms

    private static void labNumbers(Check check) {
        BathBook x = new BathBook();
        for (int a = 0; a < 6; a++) {
            for (int b = 0; b < 6; b++) {
                check.due("lab(" + a + ", " + b + ", 1, 0)", x.lab(a, b, 1, 0), a == b ? BathBook.BAD : 1);
            }
        }
        closesIs(check, x, ring(5, 0, 4), 0, -1);
    }

    private static void differencesWithEnds(Check check) {
        BathBook x = withRing(7, 0, 0, 0);
        closesIs(check, x, ring(0, 1, 2), 0, 7);
        x.lab(0, 1, 7, 7);
        closesIs(check, x, ring(0, 1, 2), 1, 7);
        x.lab(1, 0, 7, 6);
        closesIs(check, x, ring(0, 1, 2), 0, -7);
        x.lab(0, 1, 0, 0);
        closesIs(check, x, ring(0, 1, 2), 1, 0);
    }

    private static void closesAtTheEnds(Check check) {
        closesIs(check, withRing(10, -4, -3, 3), ring(0, 1, 2), 1, 3);
        closesIs(check, withRing(10, -4, -2, 3), ring(0, 1, 2), 0, 4);
        closesIs(check, withRing(-10, 4, 3, 3), ring(0, 1, 2), 1, -3);
        closesIs(check, withRing(-10, 4, 2, 3), ring(0, 1, 2), 0, -4);
        closesIs(check, withRing(5, -2, -3, 0), ring(0, 1, 2), 1, 0);
        closesIs(check, withRing(5, -2, -2, 0), ring(0, 1, 2), 0, 1);
        closesIs(check, withRing(10000, 10000, 10000, 30000), ring(0, 1, 2), 1, 30000);
        closesIs(check, withRing(-10000, -10000, -10000, 29999), ring(0, 1, 2), 0, -30000);
    }

    // ---- promise 27

    private static void labEnds(Check check) {
        BathBook x = new BathBook();
        check.due("lab(0, 5, 10000, 10000)", x.lab(0, 5, 10000, 10000), 1);
        check.due("lab(5, 3, -10000, 0)", x.lab(5, 3, -10000, 0), 1);
        check.due("lab(3, 0, 0, 0)", x.lab(3, 0, 0, 0), 1);
        closesIs(check, x, ring(0, 5, 3), 1, 0);
        check.due("lab(3, 0, -10000, 0)", x.lab(3, 0, -10000, 0), 1);
        closesIs(check, x, ring(0, 5, 3), 1, -10000);
        check.due("lab(0, 5, 9999, 0), told anew", x.lab(0, 5, 9999, 0), 1);
        closesIs(check, x, ring(0, 5, 3), 0, -10001);
    }

    private static void labBad(Check check) {
        Check.Given busy = check.given(Books::busy);
        for (int lab : NO_LABS) {
            busy.bad("lab(" + lab + ", 0, 1, 1)", b -> b.lab(lab, 0, 1, 1));
            busy.bad("lab(0, " + lab + ", 1, 1)", b -> b.lab(0, lab, 1, 1));
        }
        for (int lab = 0; lab < 6; lab++) {
            final int same = lab;
            busy.bad("lab(" + lab + ", " + lab + ", 0, 0), the same one", b -> b.lab(same, same, 0, 0));
        }
        for (int v : new int[] {-10001, 10001, LEAST, GREATEST}) {
            busy.bad("lab(0, 1, " + v + ", 1)", b -> b.lab(0, 1, v, 1));
        }
        for (int end : new int[] {-1, 10001, BathBook.NONE, LEAST, GREATEST}) {
            busy.bad("lab(0, 1, 1, " + end + ")", b -> b.lab(0, 1, 1, end));
        }
    }

    private static void labBothWays(Check check) {
        BathBook x = withRing(10, -4, -3, 3);
        closesIs(check, x, ring(2, 1, 0), 1, -3);
        check.due("lab(1, 0, -11, 0)", x.lab(1, 0, -11, 0), 1);
        closesIs(check, x, ring(0, 1, 2), 0, 4);
        closesIs(check, x, ring(1, 0, 2), 0, -4);
        BathBook none = withRing(0, 0, 0, 0);
        closesIs(check, none, ring(1, 0, 2), 1, 0);
    }

    // ---- promise 28

    private static void closesOrNot(Check check) {
        int[][] ways = {{0, 1, 2}, {1, 2, 0}, {2, 0, 1}, {0, 2, 1}, {2, 1, 0}, {1, 0, 2}};
        for (int[] way : ways) {
            check.due("a ring that CLOSES", withRing(10, -4, -3, 3).closes(way[0], way[1], way[2]), 1);
            check.due("a ring that does not", withRing(10, -4, -3, 2).closes(way[0], way[1], way[2]), 0);
        }
    }

    private static void closesTells(Check check) {
        BathBook x = withRing(10, -4, -3, 2);
        closesIs(check, x, ring(0, 1, 2), 0, 3);
        closesIs(check, x, ring(1, 2, 0), 0, 3);
        closesIs(check, x, ring(0, 2, 1), 0, -3);
        check.fraction("closes tells no fraction", x, 0, 1);
        closesIs(check, withRing(4, -4, 0, 0), ring(0, 1, 2), 1, 0);
    }

    private static void closesBad(Check check) {
        Check.Given busy = check.given(Books::busy);
        for (int lab : NO_LABS) {
            busy.bad("closes(" + lab + ", 0, 1)", b -> b.closes(lab, 0, 1));
            busy.bad("closes(0, " + lab + ", 1)", b -> b.closes(0, lab, 1));
            busy.bad("closes(0, 1, " + lab + ")", b -> b.closes(0, 1, lab));
        }
        int[][] alike = {{0, 0, 1}, {0, 1, 0}, {1, 0, 0}, {2, 2, 2}, {4, 4, 5}, {4, 5, 4}, {5, 4, 4}};
        for (int[] two : alike) {
            busy.bad("closes(" + two[0] + ", " + two[1] + ", " + two[2] + ")", b -> b.closes(two[0], two[1], two[2]));
        }
    }

    private static void closesState(Check check) {
        int[][] sides = {{0, 1}, {1, 2}, {2, 0}};
        for (int untold = 0; untold < 3; untold++) {
            final int left = untold;
            Check.Given given = check.given(() -> {
                BathBook b = new BathBook();
                for (int side = 0; side < 3; side++) {
                    if (side != left) {
                        b.lab(sides[side][0], sides[side][1], 5, 100);
                    }
                }
                return b;
            });
            given.state("closes(0, 1, 2) but for side " + untold, b -> b.closes(0, 1, 2));
            given.state("closes(2, 1, 0) but for side " + untold, b -> b.closes(2, 1, 0));
        }
        check.given(BathBook::new).state("closes(3, 4, 5) of a new book", b -> b.closes(3, 4, 5));
    }

    // ---- promise 29

    private static void openCounts(Check check) {
        BathBook x = withAllTold(1, 0);
        check.due("open() of all", x.open(), 20);
        check.due("open() tells nothing by asked()", x.asked(), 0);
        for (int b = 1; b < 6; b++) {
            x.lab(b, 0, -1, 1);
        }
        check.due("open() but those with LAB 0", x.open(), 10);
        check.due("open() of rings that CLOSE", withAllTold(0, 0).open(), 0);
        check.due("open() of rings with room", withAllTold(3, 1).open(), 0);
    }

    private static void openOfTold(Check check) {
        check.due("open() of none told", new BathBook().open(), 0);
        BathBook x = new BathBook();
        x.lab(0, 1, 9, 0);
        x.lab(1, 5, 9, 0);
        check.due("open() of an untold ring", x.open(), 0);
        x.lab(5, 0, 9, 0);
        check.due("open() of one", x.open(), 1);
        x.lab(5, 0, -18, 0);
        check.due("open() of one that CLOSES", x.open(), 0);
        x.lab(4, 0, 1, 0);
        x.lab(4, 1, 1, 0);
        check.due("open() of the second ring", x.open(), 1);
    }

    public static void main(String[] args) {
        Promises p = Promises.tested();
        all(p);
        p.end();
    }
}
