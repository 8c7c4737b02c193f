/** Keeps count of the answers that are not as due; each test ends by end(). */
final class Check {
    private int wrong = 0;

    void due(String call, long got, long want) {
        if (got != want) {
            wrong++;
            System.out.println(call + " answered " + got + ", due is " + want);
        }
    }

    void fraction(String call, BathBook x, long upper, long lower) {
        due(call + " upper()", x.upper(), upper);
        due(call + " lower()", x.lower(), lower);
    }

    /** A refusal by a FINDING: the answer is -3, finding() tells which and it is counted once. */
    void found(String call, BathBook x, int which, java.util.function.IntSupplier run) {
        int before = x.findings(which);
        long digest = x.digest();
        long asked = x.asked();
        long upper = x.upper();
        due(call, run.getAsInt(), BathBook.FINDING);
        due(call + " finding()", x.finding(), which);
        due(call + " findings()", x.findings(which), before + 1);
        unchanged(call, x, digest, asked, upper);
    }

    /** A refusal by BAD, FULL or STATE, or an answer of NONE: nothing changes. */
    void refused(String call, BathBook x, int answer, java.util.function.IntSupplier run) {
        int finding = x.finding();
        int sum = findingSum(x);
        long digest = x.digest();
        long asked = x.asked();
        long upper = x.upper();
        due(call, run.getAsInt(), answer);
        due(call + " finding()", x.finding(), finding);
        due(call + " findings()", findingSum(x), sum);
        unchanged(call, x, digest, asked, upper);
    }

    private void unchanged(String call, BathBook x, long digest, long asked, long upper) {
        due(call + " digest()", x.digest(), digest);
        due(call + " asked()", x.asked(), asked);
        due(call + " upper()", x.upper(), upper);
    }

    private static int findingSum(BathBook x) {
        int sum = 0;
        for (int f = 1; f <= 5; f++) {
            sum += x.findings(f);
        }
        return sum;
    }

    void end() {
        if (wrong != 0) {
            System.out.println(wrong + " answers are not as due");
            System.exit(1);
        }
    }
}
