import java.lang.reflect.InvocationTargetException;
import java.lang.reflect.Method;
import java.util.Arrays;

/**
 * All promises: each call, by any two of its numbers at any of the edges that the document names (and one to either
 * side of them, and the ends of an int), answered by BathBook and by PlainBook alike.
 */
public final class EdgesTest {
    private static final int[] EDGES = {
        Integer.MIN_VALUE, -100001, -100000, -10001, -10000, -21, -20, -10, -9, -8, -1, 0, 1, 2, 3, 4, 5, 6, 7, 8,
        16, 20, 21, 39, 40, 41, 100, 101, 1000, 1001, 10000, 10001, 100000, 100001, Integer.MAX_VALUE
    };
    /** Each call with numbers that it takes on the book of start(). */
    private static final Object[][] CALLS = {
        {"row", 0, 3}, {"lay", 0, 1, 7}, {"tear", 0}, {"copy", 0, 0, 2, 0, 2}, {"mean", 0}, {"plateau", 0, 9, 1},
        {"point", 0, 1, 1}, {"clear", 0}, {"curve", 2, 2}, {"apart", 0, 2, -3, 3}, {"bulb", 1, 9}, {"told", 0, 4},
        {"mark", 3, 2}, {"stem", 1, 7, 50, 100, 20}, {"currents", 2, 9, 1, 8, 2}, {"compare", 2, 1},
        {"certify", 0, 3, 5, 60, 7, 2}, {"certificate", 1, 6}, {"offset", 1}, {"wrong", 1, 0, 90}, {"passes", 0},
        {"whole", 3}, {"drift", 0}, {"due", 0}, {"resting", 0}, {"lab", 0, 1, 3, 3}, {"closes", 0, 1, 2}, {"open"},
        {"count", 3}, {"findings", 2}
    };
    private static final Object[][] START = {
        {"row", 0, 4}, {"lay", 0, 0, 3}, {"lay", 0, 1, -9}, {"lay", 0, 2, -5}, {"lay", 0, 3, 8}, {"row", 1, 0},
        {"row", 2, 40}, {"lay", 2, 39, 100000}, {"point", 0, 0, 1}, {"point", 0, 3, 2}, {"point", 1, 5, -4},
        {"point", 2, 0, 1}, {"point", 2, 1, 4}, {"point", 2, 3, 2}, {"point", 2, -7, 100}, {"bulb", 0, 10},
        {"bulb", 1, 20}, {"bulb", 2, 30}, {"bulb", 3, 40}, {"bulb", 0, 0}, {"certify", 3, -9, 0, 0, 6, 2},
        {"certify", 2, 3, 1, 20, -3, 4}, {"certify", 1, 2, 2, 30, 5, 5}, {"certify", 0, 1, 3, 40, 2, 6},
        {"certify", 0, 3, 4, 50, 3, 1}, {"certify", 3, -9, 7, 100000, 1, 0}, {"lab", 0, 1, 10, 1},
        {"lab", 1, 2, -4, 2}, {"lab", 2, 0, -5, 3}, {"lab", 3, 4, 8, 4}, {"offset", 0}, {"currents", 2, 0, 2, 5, 4}
    };
    /** With those of the start and those that ask about the state, an object gets fewer than 512. */
    private static final int MOST_TRIED = 60;
    private static final Check CHECK = new Check("all promises");

    private BathBook book;
    private PlainBook plain;
    private int tried;

    private void start() throws ReflectiveOperationException {
        tried = 0;
        book = new BathBook();
        plain = new PlainBook();
        for (Object[] call : START) {
            answer(book, methodOf(BathBook.class, call), numbersOf(call));
            answer(plain, methodOf(PlainBook.class, call), numbersOf(call));
        }
    }

    private static Method methodOf(Class<?> type, Object[] call) throws NoSuchMethodException {
        Class<?>[] types = new Class<?>[call.length - 1];
        Arrays.fill(types, int.class);
        return type.getDeclaredMethod((String) call[0], types);
    }

    private static Object[] numbersOf(Object[] call) {
        return Arrays.copyOfRange(call, 1, call.length);
    }

    private static long answer(Object on, Method call, Object[] numbers) throws ReflectiveOperationException {
        try {
            return ((Number) call.invoke(on, numbers)).longValue();
        } catch (InvocationTargetException e) {
            throw new IllegalStateException(call.getName() + Arrays.toString(numbers), e);
        }
    }

    private void same(Method ours, Method theirs, Object[] numbers) throws ReflectiveOperationException {
        String call = ours.getName() + Arrays.toString(numbers);
        long got = answer(book, ours, numbers);
        CHECK.due(call, got, answer(plain, theirs, numbers));
        CHECK.due(call + " asked()", book.asked(), plain.asked());
        CHECK.due(call + " upper()", book.upper(), plain.upper());
        CHECK.due(call + " lower()", book.lower(), plain.lower());
        CHECK.due(call + " finding()", book.finding(), plain.finding());
        CHECK.due(call + " open()", book.open(), plain.open());
        CHECK.due(call + " digest()", book.digest(), plain.digest());
        tried++;
        if (got >= 0 || tried == MOST_TRIED) {
            findings(call);
            start();
        }
    }

    private void edgesOf(Object[] call) throws ReflectiveOperationException {
        Method ours = methodOf(BathBook.class, call);
        Method theirs = methodOf(PlainBook.class, call);
        Object[] numbers = numbersOf(call);
        start();
        same(ours, theirs, numbers);
        for (int first = 0; first < numbers.length; first++) {
            for (int second = Math.min(first + 1, numbers.length - 1); second < numbers.length; second++) {
                edgesOfTwo(ours, theirs, numbers, new int[] {first, second});
            }
        }
    }

    private void findings(String call) {
        for (int f = 1; f <= 5; f++) {
            CHECK.due(call + " findings(" + f + ")", book.findings(f), plain.findings(f));
        }
    }

    private void edgesOfTwo(Method ours, Method theirs, Object[] numbers, int[] places)
        throws ReflectiveOperationException {
        for (int one : EDGES) {
            for (int other : EDGES) {
                Object[] tried = numbers.clone();
                tried[places[0]] = one;
                tried[places[1]] = other;
                same(ours, theirs, tried);
            }
        }
    }

    public static void main(String[] args) throws ReflectiveOperationException {
        EdgesTest test = new EdgesTest();
        for (Object[] call : CALLS) {
            test.edgesOf(call);
        }
        if (CHECK.wrong() != 0) {
            System.exit(1);
        }
    }
}
