import java.io.IOException;
import java.nio.file.DirectoryStream;
import java.nio.file.Files;
import java.nio.file.Path;
import java.util.ArrayList;
import java.util.List;
import java.util.regex.Matcher;
import java.util.regex.Pattern;

/** Each sentence of the document's terms is named by a test (see Checks.sentence); run from the project's folder. */
public final class SentencesTest {
    private static final Checks CHECKS = new Checks("SentencesTest");
    private static final Path TESTS = Path.of("src/test/java");
    private static final Pattern TEXT = Pattern.compile("\"((?:[^\"\\\\]|\\\\.)*)\"");

    public static void main(String[] args) throws IOException {
        List<String> named = textsOfTests();
        CHECKS.yes("tests have texts", named.size() > 100);
        if (Document.isAtHand()) {
            for (String sentence : Document.sentencesOfTerms()) {
                CHECKS.yes("a test names: " + sentence, isNamed(sentence, named));
            }
        }
        CHECKS.end();
    }

    private static boolean isNamed(String sentence, List<String> named) {
        for (String text : named) {
            if (sentence.contains(text) || text.contains(sentence)) {
                return true;
            }
        }
        return false;
    }

    /** The texts of the tests that stand in the document; shorter ones are too likely to be there by chance. */
    private static List<String> textsOfTests() throws IOException {
        List<String> all = new ArrayList<>();
        try (DirectoryStream<Path> files = Files.newDirectoryStream(TESTS, "*Test.java")) {
            for (Path file : files) {
                Matcher text = TEXT.matcher(Files.readString(file));
                while (text.find()) {
                    if (text.group(1).length() >= 15) {
                        all.add(text.group(1));
                    }
                }
            }
        }
        return all;
    }
}
