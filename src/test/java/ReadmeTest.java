import java.lang.reflect.Method;
import java.nio.file.Files;
import java.nio.file.Path;
import java.util.HashSet;
import java.util.List;
import java.util.Set;
import java.util.regex.Matcher;
import java.util.regex.Pattern;

/** The calls that README.md shows answer what it says behind them, and it shows how all that is told is read. */
public final class ReadmeTest {
    private static final String NEW_BOOK = "BathBook book = new BathBook();";
    private static final Pattern CALL = Pattern.compile("book\\.(\\w+)\\((.*)\\);\\s+// (-?\\d+|[A-Z]+)(:.*)?");
    private static final List<String> READ_BY = List.of("asked", "upper", "lower", "finding");
    private static final Check CHECK = new Check("README.md");

    private final Set<String> shown = new HashSet<>();
    private BathBook book;

    /** A number as it stands, or one of the document's constants by its name. */
    private static int number(String text) throws ReflectiveOperationException {
        String name = text.replace("BathBook.", "");
        return name.matches("-?\\d+") ? Integer.parseInt(name) : BathBook.class.getField(name).getInt(null);
    }

    private static Method method(String name) {
        for (Method m : BathBook.class.getMethods()) {
            if (m.getName().equals(name)) {
                return m;
            }
        }
        throw new IllegalStateException("README.md calls " + name);
    }

    private static Object[] numbers(String list) throws ReflectiveOperationException {
        String[] texts = list.isEmpty() ? new String[0] : list.split(", ");
        Object[] numbers = new Object[texts.length];
        for (int i = 0; i < texts.length; i++) {
            numbers[i] = number(texts[i]);
        }
        return numbers;
    }

    private void line(String line) throws ReflectiveOperationException {
        Matcher call = CALL.matcher(line);
        if (line.equals(NEW_BOOK)) {
            book = new BathBook();
        } else if (call.matches()) {
            Object got = method(call.group(1)).invoke(book, numbers(call.group(2)));
            CHECK.due(line, ((Number) got).longValue(), number(call.group(3)));
            shown.add(call.group(1));
        } else {
            throw new IllegalStateException("README.md shows no call with its answer: " + line);
        }
    }

    private void all(List<String> lines) throws ReflectiveOperationException {
        boolean inJava = false;
        for (String line : lines) {
            if (line.startsWith("```")) {
                inJava = line.equals("```java");
            } else if (inJava && !line.isBlank()) {
                line(line);
            }
        }
        for (String name : READ_BY) {
            CHECK.due("shows " + name + "()", shown.contains(name) ? 1 : 0, 1);
        }
    }

    public static void main(String[] args) throws Exception {
        new ReadmeTest().all(Files.readAllLines(Path.of("README.md")));
        if (CHECK.wrong() != 0) {
            System.exit(1);
        }
    }
}
