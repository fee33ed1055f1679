import java.io.IOException;
import java.nio.file.Files;
import java.nio.file.Path;
import java.util.List;
import java.util.regex.Matcher;
import java.util.regex.Pattern;

/** What of LANGUAGE.md can be seen in the text of the class; run from the project's folder. */
public final class LanguageTest {
    private static final Checks CHECKS = new Checks("LanguageTest");
    private static final Path SOURCE = Path.of("src/main/java/ForkBridge.java");

    private static final String[] FORBIDDEN = {"\\bimport\\b", "\\bpackage\\b", "->", "::", "\\btry\\b", "\\bcatch\\b", "\\bfinally\\b",
        "\\bsynchronized\\b", "\\bassert\\b", "\\binstanceof\\b", "\\bwhile\\s*\\(true", "for\\s*\\(;;", "Exact\\(", "\\bdouble\\b", "\\bfloat\\b",
        "\\bequals\\b", "\\bhashCode\\b", "\\btoString\\b", "\\bvar\\b", "\\bjava\\.", "\\bObject\\b", "\\bvolatile\\b", "\\bnew ArrayList"};

    public static void main(String[] args) throws IOException {
        List<String> lines = Files.readAllLines(SOURCE);
        StringBuilder code = new StringBuilder();
        for (String line : lines) {
            String bare = line.strip();
            boolean comment = bare.startsWith("/**") || bare.startsWith("*") || bare.startsWith("//");
            code.append(comment ? "" : line.replaceAll("//.*", "")).append('\n');
        }
        for (String pattern : FORBIDDEN) {
            CHECKS.no("the text has " + pattern, Pattern.compile(pattern).matcher(code).find());
        }
        exceptions(code);
        makings(code);
        methodLengths(lines);
        CHECKS.end();
    }

    private static void exceptions(CharSequence code) {
        Matcher thrown = Pattern.compile("\\bthrow\\b[^;]*;").matcher(code);
        while (thrown.find()) {
            boolean right = thrown.group().matches("throw new (IndexOutOfBounds|IllegalArgument|IllegalState)Exception\\(\\);");
            CHECKS.yes(thrown.group(), right);
        }
    }

    /** All that is made is made in constructors and fields: a call makes nothing but an exception. */
    private static void makings(CharSequence code) {
        String owner = "";
        for (String line : code.toString().split("\n")) {
            String bare = line.strip();
            if (bare.matches(".*\\bclass .*\\{") || bare.matches("(?!for |if |while |switch |\\} ).*\\) ?(throws [\\w, ]+)?\\{")) {
                owner = bare;
            }
            if (Pattern.compile("\\bnew (?!\\w+Exception)").matcher(bare).find()) {
                boolean inConstructor = owner.matches("(public )?[A-Z]\\w*\\(.*\\) \\{");
                CHECKS.yes("made in: " + owner, inConstructor || owner.contains("class "));
            }
        }
    }

    private static void methodLengths(List<String> lines) {
        for (int n = 0; n < lines.size(); n++) {
            String line = lines.get(n);
            int indent = line.length() - line.stripLeading().length();
            if (!line.matches(" {4,8}[^ /*].*\\) ?(throws [\\w, ]+)?\\{") || line.contains(" class ")) {
                continue;
            }
            int end = n;
            while (!lines.get(end).equals(" ".repeat(indent) + "}")) {
                end++;
            }
            CHECKS.yes("length of " + line.strip(), end - n < 60);
        }
    }
}
