import java.io.IOException;
import java.lang.reflect.Constructor;
import java.lang.reflect.Field;
import java.lang.reflect.Method;
import java.lang.reflect.Modifier;
import java.nio.file.Files;
import java.nio.file.Path;
import java.util.Arrays;
import java.util.List;
import java.util.Set;
import java.util.TreeSet;

/** The public members are those of the document, with their throws clauses, and all others are private. */
public final class FaceTest {
    private static final Checks CHECKS = new Checks("FaceTest");
    private static final String INDEX = "IndexOutOfBoundsException";
    private static final String ARGUMENT = "IllegalArgumentException";
    private static final String STATE = "IllegalStateException";
    private static final String[] FACE = {
        "int clear 0",
        "int pass 1 " + ARGUMENT + " " + STATE,
        "int append 1 " + ARGUMENT + " " + STATE,
        "int clearBuffer 0",
        "int firstError 0",
        "int stroke 4 " + INDEX + " " + ARGUMENT + " " + STATE,
        "int erase 3 " + INDEX + " " + ARGUMENT + " " + STATE,
        "int fill 4 " + INDEX + " " + ARGUMENT + " " + STATE,
        "int undo 1 " + INDEX + " " + STATE,
        "int redo 1 " + INDEX + " " + STATE,
        "int lease 4 " + INDEX + " " + ARGUMENT,
        "int release 1 " + INDEX,
        "int holder 1 " + INDEX,
        "int setMark 1 " + INDEX,
        "int replay 2 " + INDEX + " " + STATE,
        "int difference 1 " + INDEX + " " + STATE,
        "int rewind 1 " + INDEX + " " + STATE,
        "int color 1 " + INDEX,
        "int colorLater 2 " + INDEX + " " + ARGUMENT,
        "int top 1 " + INDEX,
        "int count 1 " + ARGUMENT,
        "int operation 2 " + INDEX + " " + ARGUMENT,
        "int ifSwitched 1 " + INDEX,
        "int user 2 " + INDEX + " " + ARGUMENT,
        "double meanStrength 0",
        "long digest 0",
    };

    public static void main(String[] args) throws IOException {
        Class<?> face = SharedBoard.class;
        CHECKS.isTrue("public and final", Modifier.isPublic(face.getModifiers()) && Modifier.isFinal(face.getModifiers()));
        Set<String> due = new TreeSet<>(Arrays.asList(FACE));
        Set<String> names = new TreeSet<>();
        for (Method method : face.getDeclaredMethods()) {
            if (Modifier.isPublic(method.getModifiers())) {
                CHECKS.isTrue("not in the document: " + told(method), due.remove(told(method)));
                names.add(method.getName());
            }
        }
        CHECKS.isTrue("missing: " + due, due.isEmpty());
        othersArePrivate(face, names);
        for (Class<?> inside : face.getDeclaredClasses()) {
            CHECKS.isTrue(inside + " is static and not public",
                Modifier.isStatic(inside.getModifiers()) && !Modifier.isPublic(inside.getModifiers()));
        }
        CHECKS.isTrue("at most twelve classes", face.getDeclaredClasses().length < 12);
        declaredAsInTheDocument();
        CHECKS.end();
    }

    /** The program has each line of the document's face, to the names of the parameters, and nothing else public. */
    private static void declaredAsInTheDocument() throws IOException {
        Document document = Document.read();
        if (!document.isRead()) {
            return;
        }
        String source = Files.readString(Path.of("src/main/java/SharedBoard.java")).replaceAll("\\s+", " ");
        List<String> lines = document.face();
        CHECKS.same("lines of the face", lines.size(), FACE.length + 3);
        for (String line : lines) {
            String declared = line.contains("=") || line.endsWith("{") ? line : line.replaceFirst(";$", " {");
            CHECKS.isTrue("not in the program: " + declared, source.contains(" " + declared + " "));
        }
        CHECKS.same("public in the program", source.split("\\bpublic ", -1).length - 1, lines.size());
    }

    private static String told(Method method) {
        StringBuilder told = new StringBuilder();
        told.append(method.getReturnType()).append(' ').append(method.getName()).append(' ').append(method.getParameterCount());
        for (Class<?> parameter : method.getParameterTypes()) {
            if (parameter != int.class) {
                told.append(" not int");
            }
        }
        for (Class<?> thrown : method.getExceptionTypes()) {
            told.append(' ').append(thrown.getSimpleName());
        }
        return told.toString();
    }

    private static void othersArePrivate(Class<?> face, Set<String> names) {
        for (Method method : face.getDeclaredMethods()) {
            int modifiers = method.getModifiers();
            CHECKS.isTrue("visible: " + method, Modifier.isPublic(modifiers) || Modifier.isPrivate(modifiers));
            CHECKS.isTrue("bears a public name: " + method, Modifier.isPublic(modifiers) || !names.contains(method.getName()));
        }
        for (Field field : face.getDeclaredFields()) {
            boolean none = field.getName().equals("NONE");
            CHECKS.isTrue("field: " + field, none == Modifier.isPublic(field.getModifiers())
                && none != Modifier.isPrivate(field.getModifiers()));
        }
        Constructor<?>[] constructors = face.getDeclaredConstructors();
        CHECKS.isTrue("one constructor", constructors.length == 1 && constructors[0].getParameterCount() == 0
            && Modifier.isPublic(constructors[0].getModifiers()));
    }
}
