import java.io.IOException;
import java.nio.file.Files;
import java.nio.file.Path;
import java.util.regex.Matcher;
import java.util.regex.Pattern;

/** Rules of LANGUAGE.md that can be seen in the text of the program. It is run in the project's directory. */
public final class LanguageTest {
    private static final Checks CHECKS = new Checks("LanguageTest");
    private static final String[] NEVER = {
        "->", "::", "\\bimport\\b", "\\bpackage\\b", "\\btry\\b", "\\bcatch\\b", "\\bfinally\\b", "\\bsynchronized\\b",
        "\\bassert\\b", "\\bprotected\\b", "\\bstatic \\{", "Exact\\b", "\\bwhile \\(true\\)", "for \\(;;\\)",
        "\\bequals\\b", "\\bhashCode\\b", "\\btoString\\b", "\\bnull\\b", "\\bnative\\b", "\\bvolatile\\b", "\\bThread\\b",
    };

    public static void main(String[] args) throws IOException {
        String source = Files.readString(Path.of("src/main/java/SharedBoard.java"));
        CHECKS.isTrue("signs 1 to 127", source.chars().allMatch(c -> c > 0 && c < 128));
        String code = source.replaceAll("(?s)/\\*.*?\\*/", "").replaceAll("//[^\n]*", "").replaceAll("\"[^\"\n]*\"", "\"\"");
        for (String word : NEVER) {
            CHECKS.isTrue("never in the program: " + word, !Pattern.compile(word).matcher(code).find());
        }
        throwsByRule(code);
        methodsAreShort(code);
        libraryByRule(code);
        objectsOfConstructorsAlone(code);
        CHECKS.end();
    }

    private static void libraryByRule(String code) {
        Matcher named = Pattern.compile("\\b([A-Z][a-z]\\w*)\\.(\\w+)").matcher(code);
        while (named.find()) {
            CHECKS.isTrue("library: " + named.group(), named.group().matches(
                "Math\\.(abs|max|min)|Integer\\.bitCount|CellSet\\.(columnOf|rowOf)"));
        }
        CHECKS.isTrue("texts only of exceptions", !code.contains("String"));
    }

    /** All rows are made with the object; a later call makes nothing but the exception that it throws. */
    private static void objectsOfConstructorsAlone(String code) {
        Pattern header = Pattern.compile("( {4}| {8})(?!for|if|while|switch|do|else)[A-Za-z].*?(\\w+)\\(.*");
        Pattern field = Pattern.compile(" +(private )?(static )?final \\S+ \\w+ = new [^;]*;");
        String method = "";
        for (String line : code.split("\n")) {
            Matcher begun = header.matcher(line);
            if (begun.matches() && !line.endsWith(";")) {
                method = line.trim();
            }
            if (line.matches(".*\\bnew\\b.*") && !line.contains("throw new") && !field.matcher(line).matches()) {
                CHECKS.isTrue("made outside a constructor: " + line, method.matches("(public |private )?[A-Z]\\w*\\(\\) \\{"));
            }
        }
    }

    private static void throwsByRule(String code) {
        Matcher thrown = Pattern.compile("\\bthrow\\b([^;]*);").matcher(code);
        while (thrown.find()) {
            CHECKS.isTrue("throw" + thrown.group(1), thrown.group(1).matches(
                " new (IllegalStateException|IllegalArgumentException|IndexOutOfBoundsException)\\((\"\")?\\)"));
        }
    }

    private static void methodsAreShort(String code) {
        int from = 0;
        String[] lines = code.split("\n");
        for (int i = 0; i < lines.length; i++) {
            if (lines[i].isBlank()) {
                from = i;
            }
            CHECKS.isTrue("a long method at line " + i, i - from <= 60);
        }
    }
}
