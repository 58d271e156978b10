import java.io.ByteArrayOutputStream;
import java.io.IOException;
import java.io.PrintStream;
import java.lang.reflect.InvocationTargetException;
import java.net.URL;
import java.net.URLClassLoader;
import java.nio.charset.StandardCharsets;
import java.nio.file.Files;
import java.nio.file.Path;
import java.util.Comparator;
import java.util.List;
import java.util.TreeSet;
import java.util.regex.Matcher;
import java.util.regex.Pattern;
import java.util.stream.Stream;
import javax.tools.ToolProvider;

/** What README.md says is true: its program, its paths, and the tests that it names. It is run in the project's directory. */
public final class ReadmeTest {
    private static final Checks CHECKS = new Checks("ReadmeTest");
    private static final String MAIN = "src/main/java/SharedBoard.java";

    public static void main(String[] args) throws IOException, ReflectiveOperationException {
        String readme = Files.readString(Path.of("README.md"));
        Path folder = Files.createTempDirectory("readme");
        try {
            same("the program prints", printed(block(readme, "java"), folder), block(readme, "text"));
        } finally {
            remove(folder);
        }
        paths();
        testsAreNamed(readme);
        CHECKS.end();
    }

    private static void same(String what, String got, String due) {
        CHECKS.isTrue(what + "\n" + got + "but due is\n" + due, got.equals(due));
    }

    /** The first block of this kind. */
    private static String block(String readme, String kind) {
        Matcher found = Pattern.compile("(?s)```" + kind + "\n(.*?)```").matcher(readme);
        CHECKS.isTrue("no block of " + kind, found.find());
        return found.reset().find() ? found.group(1) : "";
    }

    private static String printed(String program, Path folder) throws IOException, ReflectiveOperationException {
        Path file = folder.resolve("Drawing.java");
        Files.writeString(file, program);
        int code = ToolProvider.getSystemJavaCompiler().run(null, null, null, "-d", folder.toString(), MAIN, file.toString());
        CHECKS.same("exit code of the compiler", code, 0);
        // Without a parent that knows SharedBoard, the program gets the one that was compiled with it.
        URL[] urls = {folder.toUri().toURL()};
        try (URLClassLoader loader = new URLClassLoader(urls, ClassLoader.getPlatformClassLoader())) {
            return printedBy(loader.loadClass("Drawing"));
        }
    }

    private static String printedBy(Class<?> program) throws ReflectiveOperationException {
        PrintStream before = System.out;
        ByteArrayOutputStream printed = new ByteArrayOutputStream();
        System.setOut(new PrintStream(printed, true, StandardCharsets.UTF_8));
        try {
            program.getMethod("main", String[].class).invoke(null, (Object) new String[0]);
        } catch (InvocationTargetException e) {
            System.out.println("it threw " + e.getCause());
        } finally {
            System.setOut(before);
        }
        return printed.toString(StandardCharsets.UTF_8).replace(System.lineSeparator(), "\n");
    }

    private static void remove(Path folder) throws IOException {
        List<Path> files;
        try (Stream<Path> walked = Files.walk(folder)) {
            files = walked.sorted(Comparator.reverseOrder()).toList();
        }
        for (Path file : files) {
            Files.delete(file);
        }
    }

    /** The paths that README.md gives as examples. */
    private static void paths() {
        CHECKS.same("5,5", new Board().draw("5,5", 0, 0, 1), 1);
        CHECKS.same("0,0-3,1-3,15", new Board().draw("0,0-3,1-3,15", 0, 0, 1), 4 + 14);
        CHECKS.same("no error in an incomplete text", Board.typed("0,0-").firstError(), 4);
        CHECKS.state("an incomplete text", () -> Board.typed("0,0-").stroke(0, 0, 1, 0));
        cells("4,4-6,5", 16 * 4 + 4, 16 * 5 + 5, 16 * 5 + 6);
        cells("6,5-4,4", 16 * 5 + 6, 16 * 4 + 5, 16 * 4 + 4);
    }

    private static void cells(String path, int... cells) {
        Board board = new Board();
        CHECKS.same(path, board.draw(path, 0, 0, 1), cells.length);
        for (int cell : cells) {
            CHECKS.same(path + " has " + cell, board.color(cell), 1);
        }
    }

    private static void testsAreNamed(String readme) throws IOException {
        TreeSet<String> named = new TreeSet<>();
        Matcher name = Pattern.compile("`(\\w+Test)`").matcher(readme);
        while (name.find()) {
            named.add(name.group(1));
        }
        TreeSet<String> there = new TreeSet<>();
        try (Stream<Path> files = Files.list(Path.of("src/test/java"))) {
            files.map(file -> file.getFileName().toString()).filter(file -> file.endsWith("Test.java"))
                .forEach(file -> there.add(file.replace(".java", "")));
        }
        CHECKS.isTrue("README.md names " + named + ", there are " + there, named.equals(there));
    }
}
