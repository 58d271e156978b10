import java.io.IOException;
import java.nio.file.Files;
import java.nio.file.Path;
import java.util.regex.Matcher;
import java.util.regex.Pattern;

/** Rules of LANGUAGE.md that can be seen in the text of the program. It is run in the project's directory. */
public final class LanguageTest {
    private static final Checks CHECKS = new Checks("LanguageTest");
    private static final String[] NEVER = {
        "->", "::", "\\bimport\\b", "\\bpackage\\b", "\\btry\\b", "\\bcatch\\b", "\\bfinally\\b", "\\bsynchronized\\b",
        "\\bassert\\b", "\\bprotected\\b", "\\bstatic \\{", "Exact\\b", "\\bwhile \\(true\\)", "for \\(;;\\)",
        "\\bequals\\b", "\\bhashCode\\b", "\\btoString\\b", "\\bnull\\b", "\\bnative\\b", "\\bvolatile\\b", "\\bThread\\b",
    };

    public static void main(String[] args) throws IOException {
        String source = Files.readString(Path.of("src/main/java/SharedBoard.java"));
        CHECKS.isTrue("signs 1 to 127", source.chars().allMatch(c -> c > 0 && c < 128));
        String code = source.replaceAll("(?s)/\\*.*?\\*/", "").replaceAll("//[^\n]*", "").replaceAll("\"[^\"\n]*\"", "\"\"");
        for (String word : NEVER) {
            CHECKS.isTrue("never in the program: " + word, !Pattern.compile(word).matcher(code).find());
        }
        throwsByRule(code);
        methodsAreShort(code);
        CHECKS.end();
    }

    private static void throwsByRule(String code) {
        Matcher thrown = Pattern.compile("\\bthrow\\b([^;]*);").matcher(code);
        while (thrown.find()) {
            CHECKS.isTrue("throw" + thrown.group(1), thrown.group(1).matches(
                " new (IllegalStateException|IllegalArgumentException|IndexOutOfBoundsException)\\((\"\")?\\)"));
        }
    }

    private static void methodsAreShort(String code) {
        int from = 0;
        String[] lines = code.split("\n");
        for (int i = 0; i < lines.length; i++) {
            if (lines[i].isBlank()) {
                from = i;
            }
            CHECKS.isTrue("a long method at line " + i, i - from <= 60);
        }
    }
}
