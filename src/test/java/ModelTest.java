/** All promises: many runs of calls, answered by BathBook and by PlainBook alike. */
public final class ModelTest {
    private static final int RUNS = 900, CALLS = 240;
    private static final int[] ENDS = {
        Integer.MIN_VALUE, Integer.MAX_VALUE, -100001, 100001, -10001, 10001, -21, 21, -1, -9, 41, 101, 1001, 100000
    };
    private static final Check CHECK = new Check("all promises");

    private long seed;
    private BathBook book;
    private PlainBook plain;

    /** The same numbers in every run of the test. */
    private int next(int least, int most) {
        seed = seed * 6364136223846793005L + 1442695040888963407L;
        return least + (int) Long.remainderUnsigned(seed >>> 33, most - least + 1L);
    }

    /** Mostly as told, now and then one that no call takes. */
    private int some(int least, int most) {
        return next(0, 39) == 0 ? ENDS[next(0, ENDS.length - 1)] : next(least, most);
    }

    private int reading() {
        int form = next(0, 9);
        if (form == 0) return BathBook.NONE;
        return form == 1 ? some(-100000, 100000) : some(-20, 20);
    }

    private int day() {
        return next(0, 3) == 0 ? some(0, 100000) : some(0, 60);
    }

    private int small() {
        return next(0, 3) == 0 ? some(-10000, 10000) : some(-30, 30);
    }

    private int end() {
        return next(0, 3) == 0 ? some(0, 10000) : some(0, 30);
    }

    private int by() {
        return next(0, 2) == 0 ? BathBook.NONE : some(0, 6);
    }

    /** One question behind each call: with all of them, an object would get more calls than it is made for. */
    private void same(String call, long got, long want) {
        CHECK.due(call, got, want);
        switch (next(0, 5)) {
            case 0: CHECK.due(call + " asked()", book.asked(), plain.asked()); break;
            case 1: CHECK.due(call + " upper()", book.upper(), plain.upper()); break;
            case 2: CHECK.due(call + " lower()", book.lower(), plain.lower()); break;
            case 3: CHECK.due(call + " finding()", book.finding(), plain.finding()); break;
            default: CHECK.due(call + " digest()", book.digest(), plain.digest());
        }
    }

    private void sameFindings() {
        for (int f = 1; f <= 5; f++) {
            CHECK.due("findings(" + f + ")", book.findings(f), plain.findings(f));
        }
    }

    private void rows() {
        int r = some(0, 5);
        int i = some(0, 12);
        int to = some(0, 5);
        int j = some(0, 12);
        int n = some(0, 6);
        int v = reading();
        int size = next(0, 9) == 0 ? some(-2, 40) : 2 * next(0, 6) + next(0, 5) / 5;
        switch (next(0, 13)) {
            case 0: same("row", book.row(r, size), plain.row(r, size)); break;
            case 1: same("tear", book.tear(r), plain.tear(r)); break;
            case 2: same("copy", book.copy(r, i, to, j, n), plain.copy(r, i, to, j, n)); break;
            case 3: same("mean", book.mean(r), plain.mean(r)); break;
            case 4:
            case 5: {
                int w = next(0, 3) == 0 ? some(0, 100000) : some(0, 30);
                int m = some(1, 6);
                same("plateau", book.plateau(r, w, m), plain.plateau(r, w, m));
                break;
            }
            case 6: same("compare", book.compare(r, j - 1), plain.compare(r, j - 1)); break;
            default: same("lay", book.lay(r, i, v), plain.lay(r, i, v));
        }
    }

    private void tables() {
        int table = some(0, 3);
        int other = some(0, 3);
        int x = some(-20, 20);
        int y = next(0, 1) == 0 ? some(-10000, 10000) : some(-9, 9);
        int b = some(-20, 20);
        switch (next(0, 9)) {
            case 0: same("clear", book.clear(table), plain.clear(table)); break;
            case 1: same("apart", book.apart(table, other, x, b), plain.apart(table, other, x, b)); break;
            case 2:
            case 3: same("curve", book.curve(table, x), plain.curve(table, x)); break;
            default: same("point", book.point(table, x, y), plain.point(table, x, y));
        }
    }

    private void bulbs() {
        int bulb = some(0, 7);
        int kind = some(0, 3);
        int tolerance = next(0, 1) == 0 ? some(0, 10000) : some(0, 60);
        int what = some(0, 4);
        int i = some(1, 100);
        int j = next(0, 4) == 0 ? i : some(1, 100);
        int a = reading();
        int b = reading();
        int n = some(0, 1000);
        switch (next(0, 9)) {
            case 0: same("bulb", book.bulb(kind, tolerance), plain.bulb(kind, tolerance)); break;
            case 1:
            case 2: same("told", book.told(bulb, what), plain.told(bulb, what)); break;
            case 3:
            case 4:
            case 5: same("mark", book.mark(bulb, kind), plain.mark(bulb, kind)); break;
            case 6:
            case 7: same("stem", book.stem(bulb, a, n, b, j), plain.stem(bulb, a, n, b, j)); break;
            default: same("currents", book.currents(bulb, a, i, b, j), plain.currents(bulb, a, i, b, j));
        }
    }

    private void certificates() {
        int bulb = some(0, 6);
        int c = some(0, 12);
        int what = some(0, 6);
        switch (next(0, 15)) {
            case 0: {
                int bath = some(0, 7);
                int a = day();
                int b = a + next(-1, 9);
                same("wrong", book.wrong(bath, a, b), plain.wrong(bath, a, b));
                break;
            }
            case 1: same("certificate", book.certificate(c, what), plain.certificate(c, what)); break;
            case 2: same("offset", book.offset(c), plain.offset(c)); break;
            case 3: same("passes", book.passes(bulb), plain.passes(bulb)); break;
            case 4: same("whole", book.whole(c), plain.whole(c)); break;
            case 5: same("drift", book.drift(bulb), plain.drift(bulb)); break;
            case 6:
            case 7: same("due", book.due(bulb), plain.due(bulb)); break;
            case 8: same("resting", book.resting(c), plain.resting(c)); break;
            default: certifyOne(bulb);
        }
    }

    private void certifyOne(int bulb) {
        int by = by();
        int bath = some(0, 7);
        int day = day();
        int offset = small();
        int end = end();
        same("certify", book.certify(bulb, by, bath, day, offset, end),
            plain.certify(bulb, by, bath, day, offset, end));
    }

    private void labs() {
        int a = some(0, 5);
        int b = some(0, 5);
        int c = some(0, 5);
        int v = small();
        int end = end();
        switch (next(0, 4)) {
            case 0: same("closes", book.closes(a, b, c), plain.closes(a, b, c)); break;
            case 1: same("open", book.open(), plain.open()); break;
            case 2: same("count", book.count(a - 1), plain.count(a - 1)); break;
            default: same("lab", book.lab(a, b, v, end), plain.lab(a, b, v, end));
        }
    }

    /** Some runs are mostly of one kind of call, so that books get full. */
    private void run(int number) {
        int group = number % 7;
        seed = 1000003L * number + 7;
        book = new BathBook();
        plain = new PlainBook();
        for (int kind = 0; group == 3 && kind < 6; kind++) {
            same("bulb", book.bulb(kind % 4, 25), plain.bulb(kind % 4, 25));
        }
        for (int call = 0; call < CALLS; call++) {
            switch (group < 5 && next(0, 5) > 0 ? group : next(0, 4)) {
                case 0: rows(); break;
                case 1: tables(); break;
                case 2: bulbs(); break;
                case 3: certificates(); break;
                default: labs();
            }
        }
        sameFindings();
    }

    public static void main(String[] args) {
        ModelTest test = new ModelTest();
        for (int number = 0; number < RUNS; number++) {
            test.run(number);
        }
        if (CHECK.wrong() != 0) {
            System.exit(1);
        }
    }
}
