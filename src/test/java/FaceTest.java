import java.io.IOException;
import java.lang.reflect.Constructor;
import java.lang.reflect.Field;
import java.lang.reflect.Method;
import java.lang.reflect.Modifier;
import java.nio.file.Files;
import java.nio.file.Path;
import java.util.ArrayList;
import java.util.Arrays;
import java.util.List;
import java.util.Set;
import java.util.TreeSet;
import java.util.regex.Matcher;
import java.util.regex.Pattern;

/** The public face, no more and no fewer, and those rules of the language that a look can tell. */
public final class FaceTest {
    private static final Check CHECK = new Check();
    private static final String SOURCE = "src/main/java/PacketGuard.java";
    private static final String INDEX = " throws IndexOutOfBoundsException";
    private static final String STATE = " throws IllegalStateException";
    private static final String BOTH = " throws IllegalArgumentException, IllegalStateException";

    public static void main(String[] args) throws IOException {
        Set<String> due = new TreeSet<>(Arrays.asList(
                "void key(int, int)" + INDEX, "void turn(int)" + INDEX, "int put(int, int)" + BOTH,
                "int send(int)" + STATE, "int forge(int, int)" + STATE, "int onTheWay()",
                "int octet(int)" + INDEX, "void alter(int, int)" + INDEX, "int link(int)" + BOTH,
                "int take()", "int got(int)" + INDEX, "int number(int)" + INDEX, "void begin()"));
        methods(due);
        fields();
        CHECK.due("modifiers of the class", PacketGuard.class.getModifiers(),
                Modifier.PUBLIC | Modifier.FINAL);
        Constructor<?>[] constructors = PacketGuard.class.getDeclaredConstructors();
        CHECK.due("constructors", constructors.length, 1);
        CHECK.due("constructor's parameters", constructors[0].getParameterCount(), 0);
        CHECK.due("constructor's modifiers", constructors[0].getModifiers(), Modifier.PUBLIC);
        nestedClasses();
        sizes();
        source(Files.readString(Path.of(SOURCE)));
        CHECK.end("FaceTest");
    }

    private static void methods(Set<String> due) {
        Set<String> found = new TreeSet<>();
        Set<String> names = new TreeSet<>();
        for (Method m : PacketGuard.class.getDeclaredMethods()) {
            if (!Modifier.isPrivate(m.getModifiers())) {
                CHECK.due("modifiers of " + m, m.getModifiers(), Modifier.PUBLIC);
                found.add(face(m));
                names.add(m.getName());
            }
        }
        CHECK.holds("the methods are " + due + ", not " + found, found.equals(due));
        for (Method m : PacketGuard.class.getDeclaredMethods()) {
            CHECK.holds("no private method bears the name " + m.getName(),
                    !Modifier.isPrivate(m.getModifiers()) || !names.contains(m.getName()));
        }
    }

    private static String face(Method m) {
        StringBuilder text = new StringBuilder(m.getReturnType().getSimpleName());
        text.append(' ').append(m.getName()).append('(');
        text.append(names(m.getParameterTypes())).append(')');
        if (m.getExceptionTypes().length > 0) {
            text.append(" throws ").append(names(m.getExceptionTypes()));
        }
        return text.toString();
    }

    private static String names(Class<?>[] types) {
        StringBuilder text = new StringBuilder();
        for (Class<?> type : types) {
            text.append(text.length() == 0 ? "" : ", ").append(type.getSimpleName());
        }
        return text.toString();
    }

    private static void fields() {
        for (Field f : PacketGuard.class.getDeclaredFields()) {
            if (f.getName().equals("NONE")) {
                CHECK.due("modifiers of NONE", f.getModifiers(),
                        Modifier.PUBLIC | Modifier.STATIC | Modifier.FINAL);
            } else {
                CHECK.holds(f + " is private", Modifier.isPrivate(f.getModifiers()));
            }
        }
    }

    private static void nestedClasses() {
        for (Class<?> nested : PacketGuard.class.getDeclaredClasses()) {
            int modifiers = nested.getModifiers();
            CHECK.holds(nested + " is static", Modifier.isStatic(modifiers));
            CHECK.holds(nested + " is hidden",
                    !Modifier.isPublic(modifiers) && !Modifier.isProtected(modifiers));
            for (Field f : nested.getDeclaredFields()) {
                CHECK.holds(f + " is no static state", !Modifier.isStatic(f.getModifiers())
                        || Modifier.isFinal(f.getModifiers()));
            }
        }
    }

    /** Rules 5 and 11: kinds of constants, numbers of classes, of fields and of parameters. */
    private static void sizes() {
        Class<?>[] nested = PacketGuard.class.getDeclaredClasses();
        CHECK.holds("at most twelve classes", nested.length + 1 <= 12);
        List<Class<?>> all = new ArrayList<>(List.of(nested));
        all.add(PacketGuard.class);
        for (Class<?> c : all) {
            int fields = 0;
            for (Field f : c.getDeclaredFields()) {
                fields += Modifier.isStatic(f.getModifiers()) ? 0 : 1;
                CHECK.holds(f + " is a constant of a plain kind",
                        !Modifier.isStatic(f.getModifiers()) || isPlain(f));
            }
            CHECK.holds(c + " has at most twenty fields", fields <= 20);
            for (Method m : c.getDeclaredMethods()) {
                CHECK.holds(m + " has at most seven parameters", m.getParameterCount() <= 7);
            }
        }
    }

    private static boolean isPlain(Field f) {
        return Modifier.isFinal(f.getModifiers())
                && (f.getType() == int.class || f.getType() == int[].class);
    }

    private static void source(String text) {
        CHECK.holds("the source is of plain characters",
                text.chars().allMatch(c -> c == '\n' || c >= ' ' && c < 127));
        String code = text.replaceAll("(?s)/\\*.*?\\*/", "").replaceAll("//[^\n]*", "");
        String[] banned = {"import", "package", "try", "catch", "finally", "synchronized", "assert",
            "->", "::", "System", "Random", "Thread", "Object", "while", "protected"};
        for (String word : banned) {
            String edge = Character.isLetter(word.charAt(0)) ? "\\b" : "";
            CHECK.holds("the source has no " + word,
                    !Pattern.compile(edge + Pattern.quote(word) + edge).matcher(code).find());
        }
        Matcher thrown = Pattern.compile("throw\\b[^;]*;").matcher(code);
        while (thrown.find()) {
            CHECK.holds(thrown.group() + " is a plain one", thrown.group().matches(
                    "throw new (IndexOutOfBounds|IllegalState|IllegalArgument)"
                    + "Exception\\(\"[a-z ]*\"\\);"));
        }
        Matcher body = Pattern.compile("(?m)^( {4}| {8})\\S[^\n;=]*\\) ?[^\n;=]*\\{\n(?s:.*?)\n\\1\\}")
                .matcher(code);
        while (body.find()) {
            CHECK.holds("a method is short: " + body.group().lines().findFirst().orElse(""),
                    body.group().lines().count() <= 60);
        }
    }
}
