import java.util.function.Supplier;

/**
 * Ways to look at a board, by some 260 calls at most. Together they show all that can be seen of it: what it
 * answers now, and what it answers later, when hidden things (what can be redone, when leases end, what marks
 * keep) come to light. Most of them change the board, so each view wants a board of its own.
 */
enum View {
    FACTS, HOLDERS, TOPS, REPLAYS, UNDOING, PASSING, REWINDING, SUPPOSING, DRAWING, LEASING;

    /** All answers in their order, as one text. */
    String of(Board board) {
        StringBuilder seen = new StringBuilder();
        switch (this) {
            case FACTS -> facts(board, seen);
            case HOLDERS -> everyCell(seen, cell -> board.holder(cell));
            case TOPS -> everyCell(seen, cell -> board.top(cell));
            case REPLAYS -> replays(board, seen);
            case UNDOING -> undoing(board, seen);
            case PASSING -> passing(board, seen);
            case REWINDING -> rewinding(board, seen);
            case SUPPOSING -> supposing(board, seen);
            case DRAWING -> drawing(board, seen);
            default -> leasing(board, seen);
        }
        return seen.toString();
    }

    private interface OfCell {
        int get(int cell);
    }

    private static void see(StringBuilder seen, Supplier<Object> call) {
        String answer;
        try {
            answer = call.get().toString();
        } catch (RuntimeException e) {
            refuseThatOfTheMachine(e);
            answer = e.getClass().getSimpleName();
        }
        seen.append(answer).append(' ');
    }

    /** What the machine throws is of other classes, below these or beside them. */
    private static void refuseThatOfTheMachine(RuntimeException e) {
        if (e.getClass() != IndexOutOfBoundsException.class && e.getClass() != IllegalArgumentException.class
                && e.getClass() != IllegalStateException.class) {
            throw e;
        }
    }

    private static void everyCell(StringBuilder seen, OfCell question) {
        for (int cell = 0; cell < 256; cell++) {
            int asked = cell;
            see(seen, () -> question.get(asked));
        }
    }

    private static void facts(Board board, StringBuilder seen) {
        see(seen, board::digest);
        see(seen, board::meanStrength);
        see(seen, board::firstError);
        for (int i = 0; i < 10; i++) {
            int what = i;
            see(seen, () -> board.count(what));
        }
        for (int i = 0; i < 25; i++) {
            int number = i;
            see(seen, () -> board.user(number / 5, number % 5));
        }
        for (int i = 0; i < 99; i++) {
            int number = i;
            see(seen, () -> board.operation(number / 11, number % 11));
        }
        see(seen, board::clearBuffer);
        see(seen, board::clear);
        see(seen, board::digest);
    }

    private static void replays(Board board, StringBuilder seen) {
        for (int i = 0; i < 6; i++) {
            int mark = i;
            see(seen, () -> board.difference(mark));
            for (int j = 0; j < 256; j += 7) {
                int cell = j;
                see(seen, () -> board.replay(mark, cell));
            }
        }
    }

    private static void undoing(Board board, StringBuilder seen) {
        for (int user = 0; user < 5; user++) {
            int whose = user;
            for (int i = 0; i < 4; i++) {
                see(seen, () -> board.redo(whose));
                see(seen, board::digest);
            }
        }
        for (int user = 0; user < 5; user++) {
            int whose = user;
            for (int i = 0; i < 6; i++) {
                see(seen, () -> board.undo(whose));
                see(seen, board::digest);
            }
        }
    }

    private static void passing(Board board, StringBuilder seen) {
        for (int i = 0; i < 35; i++) {
            see(seen, () -> board.pass(1));
            see(seen, board::digest);
        }
        see(seen, () -> board.pass(1000));
        see(seen, board::digest);
    }

    private static void rewinding(Board board, StringBuilder seen) {
        for (int i : new int[] {1, 5, 2, 0, 3, 4}) {
            see(seen, () -> board.rewind(i));
            see(seen, board::digest);
            see(seen, () -> board.undo(0));
            see(seen, () -> board.redo(0));
            see(seen, () -> board.redo(1));
            see(seen, () -> board.fill(4, 0, 7, 0));
            see(seen, board::digest);
        }
    }

    private static void supposing(Board board, StringBuilder seen) {
        for (int i = 0; i < 61; i++) {
            int number = i;
            see(seen, () -> board.ifSwitched(number));
        }
        for (int cell : new int[] {0, 51, 52, 85, 117, 255}) {
            for (int ticks : new int[] {0, 1, 4, 5, 14, 15, 17, 18, 1000}) {
                see(seen, () -> board.colorLater(cell, ticks));
            }
        }
        see(seen, board::digest);
    }

    /** Takes the buffer as it is, adds to it, and draws anew. */
    private static void drawing(Board board, StringBuilder seen) {
        see(seen, () -> board.stroke(0, 1, 3, 2));
        see(seen, board::digest);
        see(seen, () -> board.append('5'));
        see(seen, board::firstError);
        see(seen, () -> board.erase(1, 2, 0));
        see(seen, board::digest);
        see(seen, board::clearBuffer);
        for (int user = 0; user < 5; user++) {
            int whose = user;
            see(seen, () -> board.draw("0,7-15,5", whose, 2, 6));
            see(seen, board::digest);
            see(seen, () -> board.redo(whose));
            see(seen, () -> board.undo(whose));
        }
    }

    private static void leasing(Board board, StringBuilder seen) {
        for (int user = 0; user < 5; user++) {
            int whose = user;
            for (int cell : new int[] {0, 16, 17, 80, 97, 119, 200, 255}) {
                see(seen, () -> board.lease(whose, cell, cell, 3));
            }
            see(seen, () -> board.release(whose));
            see(seen, board::digest);
        }
    }
}
