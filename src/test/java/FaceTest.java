import java.lang.reflect.Constructor;
import java.lang.reflect.Field;
import java.lang.reflect.Method;
import java.lang.reflect.Modifier;
import java.nio.file.Files;
import java.nio.file.Path;
import java.util.ArrayList;
import java.util.Arrays;
import java.util.HashSet;
import java.util.List;
import java.util.Set;
import java.util.TreeSet;
import java.util.regex.Matcher;
import java.util.regex.Pattern;

/** The document's public face, and those rules of LANGUAGE.md that can be read off. */
public final class FaceTest {
    private static final String[] FACE = {
        "int row(int,int)", "int lay(int,int,int)", "int tear(int)", "int copy(int,int,int,int,int)",
        "int mean(int)", "int plateau(int,int,int)", "int point(int,int,int)", "int clear(int)",
        "int curve(int,int)", "int apart(int,int,int,int)", "int bulb(int,int)", "int told(int,int)",
        "int mark(int,int)", "int stem(int,int,int,int,int)", "int currents(int,int,int,int,int)",
        "int compare(int,int)", "int certify(int,int,int,int,int,int)", "int certificate(int,int)",
        "int offset(int)", "int wrong(int,int,int)", "int passes(int)", "int whole(int)", "int drift(int)",
        "int due(int)", "int resting(int)", "int lab(int,int,int,int)", "int closes(int,int,int)",
        "int open()", "long asked()", "long upper()", "long lower()", "int count(int)", "int finding()",
        "int findings(int)", "long digest()"
    };
    private static final Pattern RULED_OUT = Pattern.compile(
        "\\b(throws?|try|catch|synchronized|assert|package|float|double|protected|System\\.(?!arraycopy)\\w+"
            + "|\\w+Exact|new Random)\\b|->|::");
    private static final Pattern METHOD = Pattern.compile(
        "(?ms)^( +)[^\n=;]*?(\\w+)\\([^\n]*\\) \\{\n(.*?)^\\1\\}");
    private static final int MOST_PARAMETERS = 7, MOST_LINES = 60, MOST_FIELDS = 20, MOST_CLASSES = 12;
    private static final Set<Class<?>> LIBRARY = Set.of(String.class, StringBuilder.class, ArrayList.class, List.class);
    private static int wrong = 0;

    private static void holds(String what, boolean so) {
        if (!so) {
            wrong++;
            System.out.println(what);
        }
    }

    private static String signature(Method m) {
        StringBuilder text = new StringBuilder(m.getReturnType() + " " + m.getName() + "(");
        for (Class<?> type : m.getParameterTypes()) {
            text.append(text.charAt(text.length() - 1) == '(' ? "" : ",").append(type);
        }
        return text.append(")").toString();
    }

    private static void methods() {
        Set<String> open = new TreeSet<>();
        Set<String> publicNames = new HashSet<>();
        for (Method m : BathBook.class.getDeclaredMethods()) {
            if (!Modifier.isPrivate(m.getModifiers())) {
                open.add(signature(m));
                publicNames.add(m.getName());
                holds(m + " is not public", Modifier.isPublic(m.getModifiers()));
                holds(m + " is static", !Modifier.isStatic(m.getModifiers()));
            }
        }
        holds("the methods are " + open, open.equals(new TreeSet<>(Arrays.asList(FACE))));
        for (Class<?> type : all()) {
            for (Method m : type.getDeclaredMethods()) {
                holds("rule 1: " + m + " bears a public name",
                    !Modifier.isPrivate(m.getModifiers()) || !publicNames.contains(m.getName()));
                holds("rule 11: " + m + " takes too many", m.getParameterCount() <= MOST_PARAMETERS);
            }
        }
    }

    /** BathBook and the classes inside it. */
    private static List<Class<?>> all() {
        List<Class<?>> types = new ArrayList<>(Arrays.asList(BathBook.class.getDeclaredClasses()));
        types.add(BathBook.class);
        return types;
    }

    private static Class<?> elementOf(Class<?> type) {
        return type.isArray() ? type.getComponentType() : type;
    }

    private static boolean isConstant(Class<?> type) {
        return type == String.class || elementOf(type).isPrimitive();
    }

    private static boolean isOfTheLanguage(Class<?> type) {
        return LIBRARY.contains(type) || all().contains(elementOf(type)) || elementOf(elementOf(type)).isPrimitive();
    }

    private static void fieldsOf(Class<?> type) {
        int held = 0;
        for (Field f : type.getDeclaredFields()) {
            boolean fixed = Modifier.isStatic(f.getModifiers());
            held += fixed ? 0 : 1;
            holds("rule 5: " + f + " is static and not final", !fixed || Modifier.isFinal(f.getModifiers()));
            holds("rule 5: " + f + " is no constant", !fixed || isConstant(f.getType()));
            holds("rule 3: " + f + " is of another type", isOfTheLanguage(f.getType()));
        }
        holds("rule 11: " + type + " has too many fields", held <= MOST_FIELDS);
    }

    private static void fields() {
        Set<String> open = new TreeSet<>();
        for (Field f : BathBook.class.getDeclaredFields()) {
            int is = f.getModifiers();
            if (!Modifier.isPrivate(is)) {
                open.add(f.getName());
                holds(f + " is no public constant int", f.getType() == int.class
                    && Modifier.isPublic(is) && Modifier.isStatic(is) && Modifier.isFinal(is));
            }
        }
        all().forEach(FaceTest::fieldsOf);
        holds("the constants are " + open,
            open.equals(new TreeSet<>(Arrays.asList("BAD", "FULL", "FINDING", "STATE", "NONE"))));
    }

    private static void classes() {
        int is = BathBook.class.getModifiers();
        holds("BathBook is not public and final", Modifier.isPublic(is) && Modifier.isFinal(is));
        Constructor<?>[] made = BathBook.class.getDeclaredConstructors();
        holds("there is one public constructor without parameters",
            made.length == 1 && made[0].getParameterCount() == 0 && Modifier.isPublic(made[0].getModifiers()));
        for (Class<?> inner : BathBook.class.getDeclaredClasses()) {
            int how = inner.getModifiers();
            holds(inner + " is not static", Modifier.isStatic(how));
            holds(inner + " is open", !Modifier.isPublic(how) && !Modifier.isProtected(how));
        }
        holds("rule 11: there are too many classes", all().size() <= MOST_CLASSES);
    }

    private static void source() throws Exception {
        String text = Files.readString(Path.of("src/main/java/BathBook.java"));
        String code = text.replaceAll("(?s)/\\*.*?\\*/", "").replaceAll("//[^\n]*", "");
        Matcher found = RULED_OUT.matcher(code);
        while (found.find()) {
            holds("BathBook.java has " + found.group(), false);
        }
        for (String line : code.split("\n")) {
            holds(line, !line.startsWith("import ") || line.equals("import java.util.Arrays;"));
        }
        methodLengths(text);
    }

    private static void methodLengths(String text) {
        Set<String> seen = new HashSet<>();
        Matcher method = METHOD.matcher(text);
        while (method.find()) {
            seen.add(method.group(2));
            holds("rule 11: " + method.group(2) + " is too long",
                method.group(3).chars().filter(c -> c == '\n').count() <= MOST_LINES);
        }
        for (Class<?> type : all()) {
            for (Method m : type.getDeclaredMethods()) {
                holds(m + " was not found in the text", seen.contains(m.getName()));
            }
        }
    }

    public static void main(String[] args) throws Exception {
        methods();
        fields();
        classes();
        source();
        holds("BAD", BathBook.BAD == -1);
        holds("FULL", BathBook.FULL == -2);
        holds("FINDING", BathBook.FINDING == -3);
        holds("STATE", BathBook.STATE == -4);
        holds("NONE", BathBook.NONE == -9);
        if (wrong != 0) {
            System.exit(1);
        }
    }
}
