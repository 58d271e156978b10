import java.io.IOException;
import java.nio.file.Files;
import java.nio.file.Path;
import java.util.LinkedHashMap;
import java.util.List;
import java.util.Map;

/** The sections of ../shared/DOC.md, and what of them no test has cited yet. */
final class Document {
    private static final Path FILE = Path.of("../shared/DOC.md");
    /** The examples have a test of their own, and the headings of the interface promise nothing. */
    private static final String NOT_CITED = "Examples: .*(?=The constants:)|Ahead of the calls [^:]*: ---- [a-z ]*\\.";
    private static final String SIGNATURE = "^\\s*`[^`]*`:";

    private String text = "";
    private final Map<String, String> sections = new LinkedHashMap<>();
    private final Map<String, String> rests = new LinkedHashMap<>();

    /** Without the file all sections are empty; sentences can't be looked up then. */
    static Document read() throws IOException {
        Document document = new Document();
        if (!Files.exists(FILE)) {
            System.out.println("no " + FILE + ": the cited sentences are not looked up");
            return document;
        }
        document.text = Files.readString(FILE);
        for (String part : document.text.split("(?m)^## ")) {
            String heading = part.lines().findFirst().orElse("").split(":")[0];
            String text = part.substring(part.indexOf('\n') + 1).replaceAll("(?m)^- ", "").replaceAll("\\s+", " ");
            document.sections.put(heading, text);
            if (heading.equals("Terms") || heading.startsWith("Promise ")) {
                document.rests.put(heading, text.replaceAll(NOT_CITED, "").replaceFirst(SIGNATURE, ""));
            }
        }
        return document;
    }

    /** The paragraphs "1. .." of the examples, each with its calls. */
    List<String> examples() {
        return text.lines().filter(line -> line.matches("[0-9]+\\. .*")).toList();
    }

    /** The lines of the class in the section of the public face, without the braces. */
    List<String> face() {
        return text.lines().dropWhile(line -> !line.startsWith("```java")).skip(1)
            .takeWhile(line -> !line.startsWith("```")).map(String::trim).filter(line -> !line.equals("}")).toList();
    }

    boolean isRead() {
        return !sections.isEmpty();
    }

    /** Answers whether the sentence stands in the section, and takes it as cited. */
    boolean cite(String heading, String sentence) {
        String section = sections.getOrDefault(heading, "");
        if (!section.contains(sentence)) {
            return false;
        }
        rests.computeIfPresent(heading, (key, rest) -> rest.replace(sentence, " "));
        return true;
    }

    /** What is left uncited, for each section that has a letter or digit left. */
    Map<String, String> uncited() {
        Map<String, String> found = new LinkedHashMap<>();
        rests.forEach((heading, rest) -> {
            if (rest.matches(".*[A-Za-z0-9].*")) {
                found.put(heading, rest.trim());
            }
        });
        return found;
    }
}
