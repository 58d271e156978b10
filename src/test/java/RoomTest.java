import java.lang.reflect.Array;
import java.lang.reflect.Field;
import java.lang.reflect.Modifier;
import java.util.ArrayDeque;
import java.util.Collections;
import java.util.Deque;
import java.util.IdentityHashMap;
import java.util.Set;

/** What a board is made of: few objects, all of which are made with it and used again by every later call. */
public final class RoomTest {
    private static final Checks CHECKS = new Checks("RoomTest");
    /** README.md names these numbers. */
    private static final int OBJECTS = 500;
    private static final int ELEMENTS = 7500;

    private int elements = 0;
    private final Set<Object> seen = Collections.newSetFromMap(new IdentityHashMap<>());
    private final Deque<Object> waiting = new ArrayDeque<>();

    public static void main(String[] args) throws IllegalAccessException {
        for (int seed = 0; seed < 3; seed++) {
            keepsItsObjects(seed);
        }
        CHECKS.end();
    }

    private static void keepsItsObjects(int seed) throws IllegalAccessException {
        Board board = new Board();
        RoomTest before = of(board);
        CHECKS.isTrue("objects: " + before.seen.size(), before.seen.size() <= OBJECTS);
        CHECKS.isTrue("fields and elements: " + before.elements, before.elements <= ELEMENTS);
        work(board, seed);
        RoomTest after = of(board);
        CHECKS.same("objects afterwards", after.seen.size(), before.seen.size());
        CHECKS.same("fields and elements afterwards", after.elements, before.elements);
        CHECKS.isTrue("the same objects", before.seen.containsAll(after.seen));
    }

    /** All that can be reached from the board; the Board around it is one object, with two fields. */
    private static RoomTest of(Board board) throws IllegalAccessException {
        RoomTest room = new RoomTest();
        room.reach(board);
        while (!room.waiting.isEmpty()) {
            room.look(room.waiting.remove());
        }
        return room;
    }

    private void reach(Object found) {
        if (found != null && seen.add(found)) {
            waiting.add(found);
        }
    }

    private void look(Object object) throws IllegalAccessException {
        if (object.getClass().isArray()) {
            int length = Array.getLength(object);
            elements += length;
            for (int i = 0; i < length && !object.getClass().getComponentType().isPrimitive(); i++) {
                reach(Array.get(object, i));
            }
            return;
        }
        for (Field field : object.getClass().getDeclaredFields()) {
            if (!Modifier.isStatic(field.getModifiers())) {
                elements++;
                field.setAccessible(true);
                if (!field.getType().isPrimitive()) {
                    reach(field.get(object));
                }
            }
        }
    }

    /** All sorts of calls, refused ones too, up to a full log, a full buffer and six leases. */
    private static void work(Board board, int seed) {
        for (int i = 0; i < 60; i++) {
            String path = i % 10 + "," + (i + seed) % 16 + "-3,4";
            if (i % 3 == seed) {
                board.erase(path, i % 5, i % 3, i % 4 % 3);
            } else if (i % 2 == 0) {
                board.type(path).stroke(i % 5, i % 3, 1 + i % 9, i);
            } else {
                board.fill(i % 5, i % 3, 1 + i % 9, 4 * i);
            }
        }
        for (int i = 0; i < 7; i++) {
            board.lease(i % 5, 17 * i, 17 * i, 9);
            refused(() -> board.fill(0, 0, 1, 0));
            refused(() -> board.append(0));
            refused(() -> board.operation(60, 0));
        }
        board.setMark(seed);
        board.undo(seed);
        board.pass(1);
        board.digest();
        board.ifSwitched(0);
        board.colorLater(0, 1);
        board.rewind(seed);
        board.clear();
        board.type("-".repeat(40));
        board.fill(0, 0, 1, 0);
    }

    private static void refused(Checks.Call call) {
        CHECKS.isTrue("refused", isRefused(call));
    }

    private static boolean isRefused(Checks.Call call) {
        try {
            call.run();
            return false;
        } catch (IllegalStateException | IllegalArgumentException | IndexOutOfBoundsException e) {
            return true;
        }
    }
}
