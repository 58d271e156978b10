import java.io.IOException;
import java.lang.reflect.InvocationTargetException;
import java.lang.reflect.Method;
import java.util.Arrays;
import java.util.List;

/** The four examples of the document, call by call: as they were copied here, and as they stand in DOC.md. */
public final class ExamplesTest {
    private static final Checks CHECKS = new Checks("ExamplesTest");

    public static void main(String[] args) throws IOException {
        strokeAndRemovingEraser();
        leaseFillMarkUndoRedo();
        fadingStroke();
        refusals();
        int copied = CHECKS.made();
        Document document = Document.read();
        if (document.isRead()) {
            List<String> examples = document.examples();
            CHECKS.same("examples in the document", examples.size(), 4);
            examples.forEach(ExamplesTest::asItStands);
            CHECKS.same("calls in the document", CHECKS.made() - copied - 1, copied);
        }
        CHECKS.end();
    }

    /** An example is "1. What it is about: call(1, 2) = 3; call() = throws SomeException." */
    private static void asItStands(String example) {
        SharedBoard board = new SharedBoard();
        String calls = example.substring(example.indexOf(": ") + 2, example.length() - 1);
        for (String row : calls.split("; ")) {
            String[] sides = row.split(" = ");
            String got = sides.length == 2 ? answer(board, sides[0]) : "no call";
            String due = sides[sides.length - 1];
            CHECKS.isTrue(example.charAt(0) + " " + row + " answered " + got, got.equals(due));
        }
    }

    private static String answer(SharedBoard board, String call) {
        String name = call.substring(0, Math.max(0, call.indexOf('(')));
        int[] numbers = Arrays.stream(call.replaceAll(".*\\(|\\).*", "").split(", "))
            .filter(number -> !number.isEmpty()).mapToInt(Integer::parseInt).toArray();
        for (Method method : SharedBoard.class.getMethods()) {
            if (method.getName().equals(name) && method.getParameterCount() == numbers.length) {
                return answer(board, method, Arrays.stream(numbers).boxed().toArray());
            }
        }
        return "no such method";
    }

    private static String answer(SharedBoard board, Method method, Object[] arguments) {
        try {
            return method.invoke(board, arguments).toString();
        } catch (InvocationTargetException e) {
            return "throws " + e.getCause().getClass().getSimpleName();
        } catch (IllegalAccessException e) {
            return "not public";
        }
    }

    private static void type(SharedBoard board, int... codes) {
        for (int i = 0; i < codes.length; i++) {
            CHECKS.same("append(" + codes[i] + ")", board.append(codes[i]), i + 1);
        }
    }

    private static void strokeAndRemovingEraser() {
        SharedBoard board = new SharedBoard();
        type(board, 48, 44, 48, 45, 51, 44, 49);
        CHECKS.same("1 stroke", board.stroke(0, 0, 5, 0), 4);
        CHECKS.same("1 color", board.color(18), 5);
        type(board, 50, 44, 49);
        CHECKS.same("1 erase", board.erase(1, 0, 1), 4);
        CHECKS.same("1 top", board.top(0), -1);
    }

    private static void leaseFillMarkUndoRedo() {
        SharedBoard board = new SharedBoard();
        CHECKS.same("2 lease", board.lease(2, 0, 17, 10), 1);
        CHECKS.same("2 holder", board.holder(16), 2);
        CHECKS.same("2 fill", board.fill(1, 1, 4, 255), 252);
        CHECKS.same("2 color", board.color(0), 0);
        CHECKS.same("2 setMark", board.setMark(0), 1);
        CHECKS.same("2 undo", board.undo(1), 0);
        CHECKS.same("2 difference", board.difference(0), 252);
        CHECKS.same("2 replay", board.replay(0, 200), 4);
        CHECKS.same("2 redo", board.redo(1), 0);
        CHECKS.state("2 redo again", () -> board.redo(1));
        CHECKS.same("2 lease refused", board.lease(1, 0, 0, 5), -1);
        CHECKS.same("2 release", board.release(2), 1);
    }

    private static void fadingStroke() {
        SharedBoard board = new SharedBoard();
        type(board, 53, 44, 53);
        CHECKS.same("3 stroke", board.stroke(3, 2, 7, 10), 1);
        CHECKS.same("3 pass", board.pass(4), 4);
        CHECKS.same("3 strength", board.operation(0, 10), 60);
        CHECKS.same("3 colorLater 6", board.colorLater(85, 6), 0);
        CHECKS.same("3 colorLater 5", board.colorLater(85, 5), 7);
        CHECKS.same("3 pass", board.pass(6), 10);
        CHECKS.same("3 count", board.count(3), 0);
        CHECKS.same("3 left", board.operation(0, 7), 1);
        CHECKS.same("3 ifSwitched", board.ifSwitched(0), 0);
        CHECKS.same("3 meanStrength", board.meanStrength(), 0.0);
    }

    private static void refusals() {
        SharedBoard board = new SharedBoard();
        type(board, 49, 54);
        CHECKS.same("4 firstError", board.firstError(), 1);
        CHECKS.state("4 stroke", () -> board.stroke(0, 0, 1, 0));
        CHECKS.same("4 clearBuffer", board.clearBuffer(), 2);
        CHECKS.state("4 undo", () -> board.undo(0));
        CHECKS.state("4 rewind", () -> board.rewind(0));
        CHECKS.index("4 fill layer", () -> board.fill(0, 3, 1, 0));
        CHECKS.index("4 fill user", () -> board.fill(5, 0, 1, 0));
        CHECKS.same("4 count", board.count(9), 1);
        CHECKS.same("4 user", board.user(4, 4), 0);
        CHECKS.index("4 lease", () -> board.lease(0, 0, 256, 1));
    }
}
