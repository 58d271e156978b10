/** The sentences of promises 7 to 11, and those of "Terms" about undo and redo. */
final class OperationSentences {
    private static final int LOW = Sentences.LOW;
    private static final int HIGH = Sentences.HIGH;
    private static final String[] NO_PATHS = {"", "1", "1,", "1,1-", "1,1-2", "1,1-2,", "16,1", "1,1x",
        "0,0-0,0-0,0-0,0-0,0-0,0-0,0"};

    private final Sentences doc;

    OperationSentences(Sentences doc) {
        this.doc = doc;
    }

    void check() {
        stroke();
        strokeRefused();
        erase();
        eraseRefused();
        fill();
        fillRefused();
        undo();
        redo();
        undoAndRedo();
        addingEndsRedo();
    }

    private void stroke() {
        doc.promise(7, "Adds a stroke with the path in the buffer, and clears the buffer.", "Returns the number of its cells.");
        Board board = new Board();
        doc.same("one cell", board.draw("3,2", 0, 0, 1), 1);
        doc.same("the buffer is empty", board.clearBuffer(), 0);
        doc.same("it is added", board.count(1), 1);
        doc.same("the longest text", board.draw("15,15-15,15-15,15-15,15-15,15-15,15", 0, 0, 1), 1);
        doc.same("crossing lines", board.draw("0,1-4,1-2,1-2,3", 0, 0, 1), 7);
        doc.same("the number can be asked for", board.operation(2, 6), 7);
        board.lease(1, 0, 255, 9);
        doc.same("all cells closed", board.draw("9,9-9,12", 0, 0, 1), 0);
        doc.same("it is added nevertheless", board.count(1), 4);
        doc.same("and the buffer is empty", board.clearBuffer(), 0);
        doc.promise(7, "`user`: user number", "`layer`: layer number", "`color`: 1 to 9", "`fade`: its fading time, 0 to 999");
        for (int user = 0; user < 5; user++) {
            for (int layer = 0; layer < 3; layer++) {
                doc.same("user and layer", new Board().draw("1,1", user, layer, 1), 1);
            }
        }
        for (int color = 1; color <= 9; color++) {
            for (int fade : new int[] {0, 1, 2, 998, 999}) {
                Board other = Board.typed("1,1");
                doc.same("color and fade", other.stroke(0, 0, color, fade), 1);
                doc.same("color", other.color(17), color);
            }
        }
    }

    private void strokeRefused() {
        doc.promise(7, "Throws `IndexOutOfBoundsException` if the user or the layer does not exist");
        doc.index("user", b -> b.stroke(-1, 0, 1, 0), b -> b.stroke(5, 0, 1, 0), b -> b.stroke(LOW, 0, 1, 0),
            b -> b.stroke(HIGH, 0, 1, 0));
        doc.index("layer", b -> b.stroke(0, -1, 1, 0), b -> b.stroke(4, 3, 1, 0), b -> b.stroke(0, LOW, 1, 0),
            b -> b.stroke(0, HIGH, 1, 0), b -> b.stroke(-1, 3, 1, 0));
        doc.promise(7, "Throws `IllegalArgumentException` if color or fade is out of range");
        doc.argument("color", b -> b.stroke(0, 0, 0, 0), b -> b.stroke(4, 2, 10, 999), b -> b.stroke(0, 0, -1, 0),
            b -> b.stroke(0, 0, LOW, 0), b -> b.stroke(0, 0, HIGH, 0));
        doc.argument("fade", b -> b.stroke(0, 0, 1, -1), b -> b.stroke(4, 2, 9, 1000), b -> b.stroke(0, 0, 1, LOW),
            b -> b.stroke(0, 0, 1, HIGH), b -> b.stroke(0, 0, 10, 1000));
        doc.promise(7, "Throws `IllegalStateException` if the buffer is not the complete text of a path, or there are 60 "
            + "operations");
        Situation[] noPath = {Situation.NEW, Situation.UNFINISHED_TEXT, Situation.WRONG_TEXT, Situation.FULL_BUFFER};
        for (Situation situation : noPath) {
            doc.stateIn(situation, "no path", b -> b.stroke(0, 0, 1, 0), b -> b.stroke(4, 2, 9, 999));
        }
        for (String text : NO_PATHS) {
            Board board = Board.typed(text);
            doc.stateOf(board, "text " + text, b -> b.stroke(0, 0, 1, 0));
            doc.same("the buffer stays", board.clearBuffer(), text.length());
        }
        doc.stateIn(Situation.FULL_LOG, "60 operations", b -> b.stroke(0, 0, 1, 0), b -> b.stroke(4, 2, 9, 999));
        Board almost = new Board();
        for (int i = 0; i < 59; i++) {
            almost.fill(i % 5, 0, 1, 0);
        }
        doc.same("the 60th", almost.draw("1,1", 0, 0, 2), 1);
        almost.type("1,1");
        doc.stateOf(almost, "the 61st", b -> b.stroke(0, 0, 2, 0));
        doc.same("the buffer stays", almost.clearBuffer(), 3);
    }

    private void erase() {
        doc.promise(8, "Adds an erasure with the path in the buffer, and clears the buffer.");
        Board board = Board.typed("0,0-3,0");
        board.erase(3, 1, 2);
        int[] due = {2, 3, 1, 2, 0, 1, 4, 0, 0, 0, 0};
        for (int what = 0; what <= 10; what++) {
            doc.same("property " + what, board.operation(0, what), due[what]);
        }
        doc.same("the buffer is empty", board.clearBuffer(), 0);
        doc.promise(8, "Returns how many cells of the picture show another color by it.");
        doc.same("nothing to erase", new Board().erase("0,0-15,15", 0, 2, 1), 0);
        Board all = new Board();
        all.fill(0, 0, 1, 0);
        doc.same("one of many cells", all.erase("5,5", 1, 0, 0), 1);
        doc.same("the same cell again", all.erase("5,5", 1, 0, 0), 0);
        all.undo(1);
        all.undo(1);
        doc.same("all cells by one", all.erase("5,5", 1, 0, 1), 256);
        Board below = new Board();
        below.draw("0,0-2,0", 0, 0, 7);
        below.draw("0,0", 1, 1, 7);
        below.draw("1,0", 1, 1, 8);
        doc.same("below it the same color, or another one", below.erase("0,0-2,0", 1, 1, 2), 1);
        Board above = new Board();
        above.draw("0,0-2,0", 0, 0, 7);
        above.draw("0,0-2,0", 0, 2, 8);
        doc.same("below what stays", above.erase("0,0-2,0", 0, 1, 0), 0);
        doc.same("but it is gone", above.operation(0, 7), 0);
        Board faded = new Board();
        faded.drawFading("0,0-2,0", 0, 7, 2);
        faded.pass(1);
        doc.same("a tick before it vanishes", faded.erase("0,0", 0, 0, 0), 1);
        faded.pass(1);
        doc.same("vanished", faded.erase("1,0", 0, 0, 0), 0);
        doc.promise(8, "`user`: user number", "`layer`: layer number", "`kind`: 0 to 2");
        for (int user = 0; user < 5; user++) {
            for (int layer = 0; layer < 3; layer++) {
                for (int kind = 0; kind < 3; kind++) {
                    Board other = new Board();
                    other.draw("1,1-2,1", user, layer, 4);
                    doc.same("kind " + kind, other.erase("1,1", user, layer, kind), kind == 1 ? 2 : 1);
                }
            }
        }
    }

    private void eraseRefused() {
        doc.promise(8, "Throws `IndexOutOfBoundsException` if the user or the layer does not exist");
        doc.index("user", b -> b.erase(-1, 0, 0), b -> b.erase(5, 0, 0), b -> b.erase(LOW, 0, 0), b -> b.erase(HIGH, 0, 0));
        doc.index("layer", b -> b.erase(0, -1, 0), b -> b.erase(4, 3, 0), b -> b.erase(0, LOW, 0), b -> b.erase(0, HIGH, 0));
        doc.promise(8, "Throws `IllegalArgumentException` if kind is not 0 to 2");
        doc.argument("kind", b -> b.erase(0, 0, -1), b -> b.erase(4, 2, 3), b -> b.erase(0, 0, LOW), b -> b.erase(0, 0, HIGH));
        doc.promise(8, "Throws `IllegalStateException` if the buffer is not the complete text of a path, or there are 60 "
            + "operations");
        Situation[] noPath = {Situation.NEW, Situation.UNFINISHED_TEXT, Situation.WRONG_TEXT, Situation.FULL_BUFFER};
        for (Situation situation : noPath) {
            doc.stateIn(situation, "no path", b -> b.erase(0, 0, 0), b -> b.erase(4, 2, 2));
        }
        for (String text : NO_PATHS) {
            Board board = Board.typed(text);
            doc.stateOf(board, "text " + text, b -> b.erase(0, 0, 0));
            doc.same("the buffer stays", board.clearBuffer(), text.length());
        }
        doc.stateIn(Situation.FULL_LOG, "60 operations", b -> b.erase(0, 0, 0), b -> b.erase(4, 2, 2));
        Board almost = new Board();
        for (int i = 0; i < 59; i++) {
            almost.fill(i % 5, 0, 1, 0);
        }
        doc.same("the 60th", almost.erase("1,1", 0, 0, 0), 1);
        almost.type("1,1");
        doc.stateOf(almost, "the 61st", b -> b.erase(0, 0, 0));
        doc.same("the buffer stays", almost.clearBuffer(), 3);
    }

    private void fill() {
        doc.promise(9, "Adds a fill without fading.", "Returns the number of its cells.");
        Board board = Board.typed("1,1-");
        board.pass(4);
        doc.same("all cells", board.fill(3, 1, 2, 77), 256);
        int[] due = {1, 3, 1, 2, 4, 1, 256, 256, 1, 256, 100};
        for (int what = 0; what <= 10; what++) {
            doc.same("property " + what, board.operation(0, what), due[what]);
        }
        doc.same("the buffer stays", board.clearBuffer(), 4);
        board.passUpTo(100000);
        doc.same("without fading", board.operation(0, 10), 100);
        doc.same("still there", board.count(3), 256);
        board.draw("0,0", 0, 1, 9);
        doc.same("one cell", board.fill(0, 0, 1, 0), 1);
        board.lease(1, 0, 0, 5);
        doc.same("no cell", board.fill(0, 0, 1, 0), 0);
        doc.same("it is added nevertheless", board.count(1), 4);
        doc.promise(9, "`user`: user number", "`layer`: layer number", "`color`: 1 to 9",
            "`cell`: the cell at which it is made, 0 to 255");
        for (int user = 0; user < 5; user++) {
            for (int layer = 0; layer < 3; layer++) {
                for (int color : new int[] {1, 2, 8, 9}) {
                    for (int cell : new int[] {0, 15, 16, 240, 255}) {
                        Board other = new Board();
                        doc.same("cells", other.fill(user, layer, color, cell), 256);
                        doc.same("color", other.color(255 - cell), color);
                    }
                }
            }
        }
    }

    private void fillRefused() {
        doc.promise(9, "Throws `IndexOutOfBoundsException` if the user, the layer or the cell does not exist");
        doc.index("user", b -> b.fill(-1, 0, 1, 0), b -> b.fill(5, 0, 1, 0), b -> b.fill(LOW, 0, 1, 0),
            b -> b.fill(HIGH, 0, 1, 0));
        doc.index("layer", b -> b.fill(0, -1, 1, 0), b -> b.fill(4, 3, 1, 0), b -> b.fill(0, LOW, 1, 0),
            b -> b.fill(0, HIGH, 1, 0));
        doc.index("cell", b -> b.fill(0, 0, 1, -1), b -> b.fill(4, 2, 9, 256), b -> b.fill(0, 0, 1, LOW),
            b -> b.fill(0, 0, 1, HIGH));
        doc.promise(9, "Throws `IllegalArgumentException` if color is not 1 to 9");
        doc.argument("color", b -> b.fill(0, 0, 0, 0), b -> b.fill(4, 2, 10, 255), b -> b.fill(0, 0, -1, 0),
            b -> b.fill(0, 0, LOW, 0), b -> b.fill(0, 0, HIGH, 0));
        doc.promise(9, "Throws `IllegalStateException` if there are 60 operations");
        doc.stateIn(Situation.FULL_LOG, "60 operations", b -> b.fill(0, 0, 1, 0), b -> b.fill(4, 2, 9, 255));
        Board board = new Board();
        for (int i = 1; i <= 60; i++) {
            doc.same("number " + i, board.fill(0, 0, 1 + i % 9, 255), 256);
        }
        doc.stateOf(board, "number 61", b -> b.fill(0, 0, 1, 0));
        board.clear();
        doc.same("room again", board.fill(0, 0, 1, 0), 256);
    }

    private void undo() {
        doc.promise(10, "Undoes for a user.", "Returns the number of the operation.", "`user`: user number");
        Board board = Board.full();
        for (int user = 4; user >= 0; user--) {
            for (int i = 11; i >= 0; i--) {
                doc.same("user " + user, board.undo(user), 5 * i + user);
            }
        }
        doc.same("none is active", board.count(2), 0);
        doc.same("all are in the log", board.count(1), 60);
        doc.promise(10, "Throws `IndexOutOfBoundsException` if the user does not exist");
        doc.index("user", b -> b.undo(-1), b -> b.undo(5), b -> b.undo(LOW), b -> b.undo(HIGH));
        doc.promise(10, "Throws `IllegalStateException` if the user has no active operation");
        doc.stateIn(Situation.NEW, "an empty log", b -> b.undo(0), b -> b.undo(4));
        doc.stateIn(Situation.BUSY, "all of the user's are undone", b -> b.undo(1));
        doc.stateOf(board, "all are undone", b -> b.undo(0));
        Board others = new Board();
        others.fill(0, 0, 1, 0);
        doc.stateOf(others, "those of another user", b -> b.undo(1));
        doc.same("the only one", others.undo(0), 0);
        doc.stateOf(others, "no more", b -> b.undo(0));
        others.redo(0);
        doc.same("active again", others.undo(0), 0);
    }

    private void redo() {
        doc.promise(11, "Redoes for a user.", "Returns the number of the operation.", "`user`: user number");
        Board board = Board.full();
        for (int user = 0; user < 5; user++) {
            for (int i = 0; i < 12; i++) {
                board.undo(user);
            }
        }
        for (int user = 0; user < 5; user++) {
            for (int i = 0; i < 12; i++) {
                doc.same("user " + user, board.redo(user), 5 * i + user);
            }
        }
        doc.same("all are active", board.count(2), 60);
        doc.promise(11, "Throws `IndexOutOfBoundsException` if the user does not exist");
        doc.index("user", b -> b.redo(-1), b -> b.redo(5), b -> b.redo(LOW), b -> b.redo(HIGH));
        doc.promise(11, "Throws `IllegalStateException` if the user has no operation that can be redone");
        doc.stateIn(Situation.NEW, "an empty log", b -> b.redo(0), b -> b.redo(4));
        doc.stateIn(Situation.BUSY, "nothing undone, or not to be redone any more", b -> b.redo(2), b -> b.redo(3),
            b -> b.redo(4));
        doc.stateOf(board, "all are redone", b -> b.redo(0));
        Board others = new Board();
        others.fill(0, 0, 1, 0);
        others.fill(1, 0, 1, 0);
        others.undo(0);
        doc.stateOf(others, "that of another user", b -> b.redo(1));
        doc.same("the only one", others.redo(0), 0);
        doc.stateOf(others, "no more", b -> b.redo(0));
        others.undo(0);
        others.setMark(0);
        others.rewind(0);
        doc.stateOf(others, "forgotten by rewinding", b -> b.redo(0));
    }

    private void undoAndRedo() {
        doc.terms("Undo and redo. To undo for a user means: the latest active operation of the user in the log is not active any "
            + "more.");
        Board board = new Board();
        board.draw("0,0", 0, 0, 1);
        board.draw("1,0", 0, 0, 2);
        board.draw("2,0", 1, 0, 3);
        doc.same("not the latest of all", board.undo(0), 1);
        doc.same("not active", board.operation(1, 5), 0);
        doc.same("not shown", board.color(1), 0);
        doc.same("not one that is undone", board.undo(0), 0);
        doc.same("another user's stays", board.operation(2, 5), 1);
        board.redo(0);
        doc.same("the latest in the log that is active", board.undo(0), 0);
        doc.terms("To redo means: of the operations of the user that were undone, the one that was undone last is active again.");
        doc.same("undone last", board.redo(0), 0);
        doc.same("undone before", board.redo(0), 1);
        board.undo(0);
        board.undo(1);
        board.undo(0);
        doc.same("of the user", board.redo(1), 2);
        doc.same("undone last, though it is earlier in the log", board.redo(0), 0);
        doc.same("active", board.operation(0, 5), 1);
        doc.same("shown", board.color(0), 1);
        doc.same("the other one still waits", board.operation(1, 5), 0);
        doc.same("then the other one", board.redo(0), 1);
    }

    private void addingEndsRedo() {
        doc.terms("When a user adds an operation, the operations of this user that are undone can never be redone any more (they "
            + "stay in the log, and are not active).");
        for (int sort = 0; sort < 3; sort++) {
            Board board = new Board();
            board.draw("0,0", 0, 0, 1);
            board.draw("1,0", 0, 0, 2);
            board.draw("2,0", 1, 0, 3);
            board.undo(0);
            board.undo(0);
            board.undo(1);
            add(board, sort);
            doc.stateOf(board, "by sort " + sort, b -> b.redo(0));
            doc.same("none can be redone", board.user(0, 2), 0);
            doc.same("they stay", board.count(1), 4);
            doc.same("the first is not active", board.operation(0, 5), 0);
            doc.same("the second is not active", board.operation(1, 5), 0);
            doc.same("undo leads to the new one", board.undo(0), 3);
            doc.stateOf(board, "and not further", b -> b.undo(0));
            doc.same("redo gives the new one back", board.redo(0), 3);
            doc.stateOf(board, "and never the others", b -> b.redo(0));
            doc.same("another user's can be redone", board.redo(1), 2);
        }
        Board refused = new Board();
        refused.draw("0,0", 0, 0, 1);
        refused.undo(0);
        doc.stateOf(refused, "a stroke that is refused adds nothing", b -> b.stroke(0, 0, 1, 0));
        doc.same("so it can be redone", refused.redo(0), 0);
        Board closed = new Board();
        closed.draw("0,0", 0, 0, 1);
        closed.undo(0);
        closed.lease(1, 0, 255, 5);
        closed.draw("1,0", 0, 0, 1);
        doc.stateOf(closed, "also by one without cells", b -> b.redo(0));
    }

    private static void add(Board board, int sort) {
        if (sort == 0) {
            board.draw("5,5", 0, 0, 4);
        } else if (sort == 1) {
            board.fill(0, 0, 4, 255);
        } else {
            board.erase("5,5", 0, 0, 0);
        }
    }
}
