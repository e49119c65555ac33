import java.io.IOException;
import java.nio.file.Files;
import java.nio.file.Path;
import java.util.ArrayList;
import java.util.List;

/** What tests read in DOC.md itself. */
final class Document {
    private static final Path PATH = Path.of("../shared/DOC.md");

    private Document() {
    }

    /** The lines of the face as the document writes them, without the names of parameters. */
    static List<String> face() throws IOException {
        List<String> face = new ArrayList<>();
        for (String line : faceAsWritten()) {
            face.add(line.replaceAll("\\bint \\w+(?=[,)])", "int"));
        }
        return face;
    }

    /** The class, its constant, its constructor and its methods, a line each. */
    static List<String> faceAsWritten() throws IOException {
        List<String> face = new ArrayList<>();
        for (String line : block(Files.readString(PATH)).split("\n")) {
            String plain = line.trim().replaceAll(" ?[;{}]$", "");
            if (!plain.isEmpty()) {
                face.add(plain);
            }
        }
        return face;
    }

    /** The text of the first block of Java. */
    static String block(String text) {
        int start = text.indexOf("```java\n");
        int end = text.indexOf("```", start + 3);
        return start < 0 || end < 0 ? "" : text.substring(start + 8, end);
    }
}
