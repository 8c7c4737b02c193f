import java.lang.reflect.Constructor;
import java.lang.reflect.Field;
import java.lang.reflect.Method;
import java.lang.reflect.Modifier;
import java.nio.file.Files;
import java.nio.file.Path;
import java.util.Arrays;
import java.util.HashSet;
import java.util.Set;
import java.util.TreeSet;
import java.util.regex.Matcher;
import java.util.regex.Pattern;

/** The document's public face, and those rules of LANGUAGE.md that can be read off. */
public final class FaceTest {
    private static final String[] FACE = {
        "int row(int,int)", "int lay(int,int,int)", "int tear(int)", "int copy(int,int,int,int,int)",
        "int mean(int)", "int plateau(int,int,int)", "int point(int,int,int)", "int clear(int)",
        "int curve(int,int)", "int apart(int,int,int,int)", "int bulb(int,int)", "int told(int,int)",
        "int mark(int,int)", "int stem(int,int,int,int,int)", "int currents(int,int,int,int,int)",
        "int compare(int,int)", "int certify(int,int,int,int,int,int)", "int certificate(int,int)",
        "int offset(int)", "int wrong(int,int,int)", "int passes(int)", "int whole(int)", "int drift(int)",
        "int due(int)", "int resting(int)", "int lab(int,int,int,int)", "int closes(int,int,int)",
        "int open()", "long asked()", "long upper()", "long lower()", "int count(int)", "int finding()",
        "int findings(int)", "long digest()"
    };
    private static final Pattern RULED_OUT = Pattern.compile(
        "\\b(throws?|try|catch|synchronized|assert|package|float|double|protected|System\\.(?!arraycopy)\\w+"
            + "|\\w+Exact|new Random)\\b|->|::");
    private static int wrong = 0;

    private static void holds(String what, boolean so) {
        if (!so) {
            wrong++;
            System.out.println(what);
        }
    }

    private static String signature(Method m) {
        StringBuilder text = new StringBuilder(m.getReturnType() + " " + m.getName() + "(");
        for (Class<?> type : m.getParameterTypes()) {
            text.append(text.charAt(text.length() - 1) == '(' ? "" : ",").append(type);
        }
        return text.append(")").toString();
    }

    private static void methods() {
        Set<String> open = new TreeSet<>();
        Set<String> publicNames = new HashSet<>();
        for (Method m : BathBook.class.getDeclaredMethods()) {
            if (!Modifier.isPrivate(m.getModifiers())) {
                open.add(signature(m));
                publicNames.add(m.getName());
                holds(m + " is not public", Modifier.isPublic(m.getModifiers()));
                holds(m + " is static", !Modifier.isStatic(m.getModifiers()));
            }
        }
        holds("the methods are " + open, open.equals(new TreeSet<>(Arrays.asList(FACE))));
        for (Method m : BathBook.class.getDeclaredMethods()) {
            holds(m + " bears a public name",
                !Modifier.isPrivate(m.getModifiers()) || !publicNames.contains(m.getName()));
            holds(m + " takes more than seven", m.getParameterCount() <= 7);
        }
    }

    private static void fields() {
        Set<String> open = new TreeSet<>();
        for (Field f : BathBook.class.getDeclaredFields()) {
            int is = f.getModifiers();
            if (!Modifier.isPrivate(is)) {
                open.add(f.getName());
                holds(f + " is no public constant int", f.getType() == int.class
                    && Modifier.isPublic(is) && Modifier.isStatic(is) && Modifier.isFinal(is));
            }
            holds(f + " is static and not final", !Modifier.isStatic(is) || Modifier.isFinal(is));
        }
        holds("the constants are " + open,
            open.equals(new TreeSet<>(Arrays.asList("BAD", "FULL", "FINDING", "STATE", "NONE"))));
    }

    private static void classes() {
        int is = BathBook.class.getModifiers();
        holds("BathBook is not public and final", Modifier.isPublic(is) && Modifier.isFinal(is));
        Constructor<?>[] made = BathBook.class.getDeclaredConstructors();
        holds("there is one public constructor without parameters",
            made.length == 1 && made[0].getParameterCount() == 0 && Modifier.isPublic(made[0].getModifiers()));
        for (Class<?> inner : BathBook.class.getDeclaredClasses()) {
            int how = inner.getModifiers();
            holds(inner + " is not static", Modifier.isStatic(how));
            holds(inner + " is open", !Modifier.isPublic(how) && !Modifier.isProtected(how));
        }
        holds("there are more than twelve classes", BathBook.class.getDeclaredClasses().length < 12);
    }

    private static void source() throws Exception {
        String text = Files.readString(Path.of("src/main/java/BathBook.java"));
        String code = text.replaceAll("(?s)/\\*.*?\\*/", "").replaceAll("//[^\n]*", "");
        Matcher found = RULED_OUT.matcher(code);
        while (found.find()) {
            holds("BathBook.java has " + found.group(), false);
        }
        for (String line : code.split("\n")) {
            holds(line, !line.startsWith("import ") || line.equals("import java.util.Arrays;"));
        }
    }

    public static void main(String[] args) throws Exception {
        methods();
        fields();
        classes();
        source();
        holds("BAD", BathBook.BAD == -1);
        holds("FULL", BathBook.FULL == -2);
        holds("FINDING", BathBook.FINDING == -3);
        holds("STATE", BathBook.STATE == -4);
        holds("NONE", BathBook.NONE == -9);
        if (wrong != 0) {
            System.exit(1);
        }
    }
}
