import java.util.Map;
import java.util.function.Supplier;
import java.util.function.ToIntFunction;

/** Keeps count of the answers that are not as due, and prints them under the test's title. */
final class Check {
    private final String title;
    private int wrong = 0;

    Check(String title) {
        this.title = title;
    }

    int wrong() {
        return wrong;
    }

    void due(String call, long got, long want) {
        if (got != want) {
            wrong++;
            System.out.println(title + ": " + call + " answered " + got + ", due is " + want);
        }
    }

    void fraction(String call, BathBook x, long upper, long lower) {
        due(call + " upper()", x.upper(), upper);
        due(call + " lower()", x.lower(), lower);
    }

    /** Calls that are refused on a book as make gives it. */
    Given given(Supplier<BathBook> make) {
        return new Given(make);
    }

    /** Each refused call is made on one of two like books: the other one shows what has to stay. */
    final class Given {
        private static final int NO_FINDING = 0;

        private final Supplier<BathBook> make;

        private Given(Supplier<BathBook> make) {
            this.make = make;
        }

        void bad(String call, ToIntFunction<BathBook> run) {
            stays(call, BathBook.BAD, NO_FINDING, run);
        }

        void full(String call, ToIntFunction<BathBook> run) {
            stays(call, BathBook.FULL, NO_FINDING, run);
        }

        void state(String call, ToIntFunction<BathBook> run) {
            stays(call, BathBook.STATE, NO_FINDING, run);
        }

        void none(String call, ToIntFunction<BathBook> run) {
            stays(call, BathBook.NONE, NO_FINDING, run);
        }

        void finds(int which, String call, ToIntFunction<BathBook> run) {
            stays(call, BathBook.FINDING, which, run);
        }

        private void stays(String call, int answer, int which, ToIntFunction<BathBook> run) {
            BathBook called = make.get();
            BathBook left = make.get();
            due(call, run.applyAsInt(called), answer);
            due(call + " finding()", called.finding(), which == NO_FINDING ? left.finding() : which);
            for (int f = 1; f <= 5; f++) {
                due(call + " findings(" + f + ")", called.findings(f), left.findings(f) + (f == which ? 1 : 0));
            }
            Map<String, Long> had = Snapshot.of(left);
            Map<String, Long> has = Snapshot.of(called);
            for (String asked : had.keySet()) {
                due(call + ", then " + asked, has.get(asked), had.get(asked));
            }
        }
    }
}
