import java.io.IOException;
import java.nio.file.Files;
import java.nio.file.Path;
import java.util.ArrayList;
import java.util.List;
import java.util.stream.Collectors;

/** The document's words, so that a test can only rest on a sentence that stands there; empty where it is not at hand. */
final class Document {
    private static final Path FILE = Path.of("../shared/DOC.md");
    private static final String TEXT = read();

    private Document() {
    }

    private static String read() {
        try {
            return Files.isRegularFile(FILE) ? Files.readString(FILE) : "";
        } catch (IOException e) {
            return "";
        }
    }

    static boolean isAtHand() {
        return !TEXT.isEmpty();
    }

    private static String bare(String words) {
        return words.replaceAll("\\s+", " ").strip();
    }

    static boolean says(String words) {
        return bare(TEXT).contains(bare(words));
    }

    /** The sentences of the terms, and the parts of the long one on operations, which ends its parts with semicolons. */
    static List<String> sentencesOfTerms() {
        int start = TEXT.indexOf("## Terms");
        int end = TEXT.indexOf("The constants:");
        List<String> all = new ArrayList<>();
        for (String line : TEXT.substring(start, end).split("\n")) {
            if (!line.isBlank() && !line.startsWith("#") && line.length() > 30) {
                for (String sentence : line.split("(?<=[.)])\\s+(?=[A-Z(])|(?<=;)\\s+")) {
                    all.add(bare(sentence));
                }
            }
        }
        return all;
    }

    /** The lines that the document prints as the face, from the class's to the one ahead of its end. */
    static List<String> linesOfFace() {
        int start = TEXT.indexOf("public final class");
        int end = TEXT.indexOf("\n}", start);
        return TEXT.substring(start, end).lines().map(Document::bare).collect(Collectors.toList());
    }

    /** The lines of a promise that tell of arguments, answers and exceptions. */
    static List<String> linesOfPromise(int number) {
        int start = TEXT.indexOf("## Promise " + number + ":");
        int end = TEXT.indexOf("\n## ", start + 1);
        List<String> all = new ArrayList<>();
        for (String line : TEXT.substring(start, end).split("\n")) {
            if (line.startsWith("- ") || line.startsWith("Returns ") || line.startsWith("Throws ")) {
                all.add(bare(line.startsWith("- ") ? line.substring(2) : line));
            }
        }
        return all;
    }
}
