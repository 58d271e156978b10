/**
 * A SharedBoard that counts its calls, with a few runs of calls that tests use again and again.
 * The document promises nothing beyond the 512th call, so a test that makes more is wrong itself.
 */
final class Board {
    static final int MOST_CALLS = 512;

    private final SharedBoard board = new SharedBoard();
    private int calls = 0;

    private SharedBoard called() {
        calls++;
        if (calls > MOST_CALLS) {
            throw new AssertionError("this test makes more than 512 calls of one object");
        }
        return board;
    }

    int calls() {
        return calls;
    }

    // ---- the calls of the face

    int clear() {
        return called().clear();
    }

    int pass(int ticks) {
        return called().pass(ticks);
    }

    int append(int code) {
        return called().append(code);
    }

    int clearBuffer() {
        return called().clearBuffer();
    }

    int firstError() {
        return called().firstError();
    }

    int stroke(int user, int layer, int color, int fade) {
        return called().stroke(user, layer, color, fade);
    }

    int erase(int user, int layer, int kind) {
        return called().erase(user, layer, kind);
    }

    int fill(int user, int layer, int color, int cell) {
        return called().fill(user, layer, color, cell);
    }

    int undo(int user) {
        return called().undo(user);
    }

    int redo(int user) {
        return called().redo(user);
    }

    int lease(int user, int first, int last, int ticks) {
        return called().lease(user, first, last, ticks);
    }

    int release(int user) {
        return called().release(user);
    }

    int holder(int cell) {
        return called().holder(cell);
    }

    int setMark(int mark) {
        return called().setMark(mark);
    }

    int replay(int mark, int cell) {
        return called().replay(mark, cell);
    }

    int difference(int mark) {
        return called().difference(mark);
    }

    int rewind(int mark) {
        return called().rewind(mark);
    }

    int color(int cell) {
        return called().color(cell);
    }

    int colorLater(int cell, int ticks) {
        return called().colorLater(cell, ticks);
    }

    int top(int cell) {
        return called().top(cell);
    }

    int count(int what) {
        return called().count(what);
    }

    int operation(int operation, int what) {
        return called().operation(operation, what);
    }

    int ifSwitched(int operation) {
        return called().ifSwitched(operation);
    }

    int user(int user, int what) {
        return called().user(user, what);
    }

    double meanStrength() {
        return called().meanStrength();
    }

    long digest() {
        return called().digest();
    }

    // ---- runs of calls

    Board type(String text) {
        for (int i = 0; i < text.length(); i++) {
            append(text.charAt(i));
        }
        return this;
    }

    static Board typed(String text) {
        return new Board().type(text);
    }

    /** A stroke without fading. */
    int draw(String path, int user, int layer, int color) {
        return type(path).stroke(user, layer, color, 0);
    }

    /** A stroke on layer 0. */
    int drawFading(String path, int user, int color, int fade) {
        return type(path).stroke(user, 0, color, fade);
    }

    int erase(String path, int user, int layer, int kind) {
        return type(path).erase(user, layer, kind);
    }

    /** Lets ticks pass, also more than a call can. */
    Board passUpTo(int tick) {
        int rest = tick - count(0);
        while (rest > 0) {
            int ticks = Math.min(rest, 1000);
            pass(ticks);
            rest -= ticks;
        }
        return this;
    }

    /** A log of 60 operations, twelve of each user, as fills at different cells. */
    static Board full() {
        Board board = new Board();
        for (int i = 0; i < 60; i++) {
            board.fill(i % 5, i % 3, 1 + i % 9, i);
        }
        return board;
    }
}
