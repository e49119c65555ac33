import java.io.IOException;
import java.lang.reflect.Constructor;
import java.lang.reflect.Field;
import java.lang.reflect.Method;
import java.lang.reflect.Modifier;
import java.util.Set;
import java.util.TreeSet;

/** The public face: the constant, the constructor and the methods of DOC.md, no more and no fewer. */
public final class FaceTest {
    private static final Check CHECK = new Check();

    public static void main(String[] args) throws IOException {
        Set<String> due = new TreeSet<>(Document.face());
        // A rule that finds nothing in the document would let anything pass.
        CHECK.due("lines of the document's face", due.size(), 16);
        Set<String> found = new TreeSet<>();
        found.add(modifiers(PacketGuard.class.getModifiers()) + "class PacketGuard");
        addFields(found);
        addConstructors(found);
        addMethods(found);
        for (String line : due) {
            CHECK.holds("the face has: " + line, found.contains(line));
        }
        for (String line : found) {
            CHECK.holds("the document has: " + line, due.contains(line));
        }
        CHECK.due("interfaces", PacketGuard.class.getInterfaces().length, 0);
        CHECK.holds("no class above it", PacketGuard.class.getSuperclass() == Object.class);
        privateNames();
        nestedClasses();
        CHECK.end("FaceTest");
    }

    private static void addFields(Set<String> found) {
        for (Field f : PacketGuard.class.getDeclaredFields()) {
            if (!Modifier.isPrivate(f.getModifiers())) {
                found.add(modifiers(f.getModifiers()) + f.getType().getSimpleName() + " "
                        + f.getName() + " = " + valueOf(f));
            }
        }
    }

    private static String valueOf(Field constant) {
        try {
            return String.valueOf(constant.get(null));
        } catch (ReflectiveOperationException | NullPointerException e) {
            return "no constant that all can read";
        }
    }

    private static void addConstructors(Set<String> found) {
        for (Constructor<?> c : PacketGuard.class.getDeclaredConstructors()) {
            found.add(modifiers(c.getModifiers()) + "PacketGuard(" + names(c.getParameterTypes())
                    + ")" + thrown(c.getExceptionTypes()));
        }
    }

    private static void addMethods(Set<String> found) {
        for (Method m : PacketGuard.class.getDeclaredMethods()) {
            if (!Modifier.isPrivate(m.getModifiers())) {
                found.add(modifiers(m.getModifiers()) + m.getReturnType().getSimpleName() + " "
                        + m.getName() + "(" + names(m.getParameterTypes()) + ")"
                        + thrown(m.getExceptionTypes()));
            }
        }
    }

    private static String modifiers(int modifiers) {
        String text = Modifier.toString(modifiers);
        return text.isEmpty() ? "" : text + " ";
    }

    private static String thrown(Class<?>[] exceptions) {
        return exceptions.length == 0 ? "" : " throws " + names(exceptions);
    }

    private static String names(Class<?>[] types) {
        StringBuilder text = new StringBuilder();
        for (Class<?> type : types) {
            text.append(text.length() == 0 ? "" : ", ").append(type.getSimpleName());
        }
        return text.toString();
    }

    /** Rule 1: no private method bears the name of a public one. */
    private static void privateNames() {
        Set<String> names = new TreeSet<>();
        for (Method m : PacketGuard.class.getMethods()) {
            names.add(m.getName());
        }
        for (Method m : PacketGuard.class.getDeclaredMethods()) {
            CHECK.holds("no private method bears the name " + m.getName(),
                    !Modifier.isPrivate(m.getModifiers()) || !names.contains(m.getName()));
        }
    }

    private static void nestedClasses() {
        for (Class<?> nested : PacketGuard.class.getDeclaredClasses()) {
            int modifiers = nested.getModifiers();
            CHECK.holds(nested + " is static", Modifier.isStatic(modifiers));
            CHECK.holds(nested + " is hidden",
                    !Modifier.isPublic(modifiers) && !Modifier.isProtected(modifiers));
        }
    }
}
