import java.io.IOException;
import java.lang.reflect.InvocationTargetException;
import java.lang.reflect.Method;
import java.nio.file.Files;
import java.nio.file.Path;
import java.util.ArrayList;
import java.util.Arrays;
import java.util.List;
import java.util.Set;
import java.util.TreeSet;
import java.util.regex.Matcher;
import java.util.regex.Pattern;
import java.util.stream.Stream;

/** What README.md says is true: its example, its list of the calls and its list of the tests. */
public final class ReadmeTest {
    private static final Check CHECK = new Check();
    private static final Path TESTS = Path.of("src/test/java");
    private static final Pattern CALL =
            Pattern.compile("guard\\.(\\w+)\\(([^)]*)\\); *(?:// (-?\\d+|throws \\w+)?.*)?");

    public static void main(String[] args) throws IOException {
        String readme = Files.readString(Path.of("README.md"));
        example(Document.block(readme));
        calls(readme);
        tests(readme);
        CHECK.end("ReadmeTest");
    }

    private static void example(String code) {
        String[] lines = code.split("\n");
        CHECK.holds("the example begins with a new object",
                lines[0].equals("PacketGuard guard = new PacketGuard();"));
        PacketGuard guard = new PacketGuard();
        Set<String> called = new TreeSet<>();
        for (String line : Arrays.copyOfRange(lines, 1, lines.length)) {
            Matcher call = CALL.matcher(line);
            if (line.isEmpty()) {
                continue;
            }
            if (call.matches()) {
                called.add(call.group(1));
                String due = call.group(3) == null ? "nothing" : call.group(3);
                String got = answer(guard, call.group(1), call.group(2));
                CHECK.holds(line + " answers " + got, got.equals(due));
            } else {
                CHECK.holds("a call: " + line, false);
            }
        }
        CHECK.holds("the example uses most of the class: " + called, called.size() >= 10);
    }

    private static String answer(PacketGuard guard, String name, String arguments) {
        Object[] numbers = arguments.isEmpty() ? new Object[0]
                : Stream.of(arguments.split(", ")).map(a -> Long.decode(a).intValue()).toArray();
        Class<?>[] types = new Class<?>[numbers.length];
        Arrays.fill(types, int.class);
        try {
            Method method = PacketGuard.class.getMethod(name, types);
            Object answer = method.invoke(guard, numbers);
            return method.getReturnType() == void.class ? "nothing" : answer.toString();
        } catch (InvocationTargetException e) {
            return "throws " + e.getCause().getClass().getSimpleName();
        } catch (ReflectiveOperationException e) {
            return "there is no such call";
        }
    }

    /** Each call of the document's face has its place, where what it throws is named, no more. */
    private static void calls(String readme) throws IOException {
        int calls = 0;
        for (String line : Document.faceAsWritten()) {
            Matcher call = Pattern.compile("public (.*\\))(.*)").matcher(line);
            if (call.matches()) {
                calls++;
                CHECK.holds("README tells what is thrown: " + line,
                        exceptions(place(readme, call.group(1))).equals(exceptions(call.group(2))));
            }
        }
        CHECK.due("calls of the face", calls, 14);
    }

    private static String place(String readme, String call) {
        int start = readme.indexOf("\n- `" + call + "`: ");
        CHECK.holds("README has a place for " + call, start >= 0);
        Matcher end = Pattern.compile("\n(- |\n)").matcher(readme);
        return start >= 0 && end.find(start + 1) ? readme.substring(start, end.start()) : "";
    }

    private static List<String> exceptions(String text) {
        List<String> found = new ArrayList<>();
        Matcher exception = Pattern.compile("\\w+Exception").matcher(text);
        while (exception.find()) {
            found.add(exception.group());
        }
        return found;
    }

    private static void tests(String readme) throws IOException {
        Set<String> files = new TreeSet<>();
        try (Stream<Path> paths = Files.list(TESTS)) {
            paths.forEach(p -> files.add(p.getFileName().toString().replace(".java", "")));
        }
        for (String name : files) {
            CHECK.holds("README names " + name, readme.contains("`" + name + "`"));
        }
        Matcher named = Pattern.compile("`(\\w+Test)`").matcher(readme);
        while (named.find()) {
            CHECK.holds("there is a " + named.group(1), files.contains(named.group(1)));
        }
    }
}
