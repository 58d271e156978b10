/** The sentences of promises 15 to 18, and those of "Terms" about marks. */
final class MarkSentences {
    private static final int LOW = Sentences.LOW;
    private static final int HIGH = Sentences.HIGH;

    private final Sentences doc;

    MarkSentences(Sentences doc) {
        this.doc = doc;
    }

    void check() {
        marks();
        setMark();
        replay();
        difference();
        rewind();
        rewindKeeps();
        rewindUnsetsMarks();
        rewindRefused();
    }

    private void marks() {
        doc.terms("Marks. There are 6 marks, 0 to 5.");
        Board board = new Board();
        for (int mark = 0; mark < 6; mark++) {
            board.draw(mark + ",0", 0, 0, 1 + mark);
            doc.same("mark " + mark, board.setMark(mark), mark + 1);
            doc.same("set", board.count(7), mark + 1);
        }
        for (int mark = 0; mark < 6; mark++) {
            doc.same("each keeps its own", board.difference(mark), 5 - mark);
        }
        doc.index("no mark -1 and 6", b -> b.setMark(-1), b -> b.setMark(6));
        doc.terms("To set a mark keeps the present number of operations, which of them are active, and the tick.");
        Board kept = new Board();
        kept.drawFading("0,0", 0, 1, 5);
        kept.draw("1,0", 0, 0, 2);
        kept.draw("2,0", 0, 0, 3);
        kept.undo(0);
        kept.pass(4);
        doc.same("operations", kept.setMark(0), 3);
        kept.redo(0);
        kept.draw("3,0", 0, 0, 4);
        kept.pass(1);
        doc.same("the tick: not vanished", kept.replay(0, 0), 1);
        doc.same("active", kept.replay(0, 1), 2);
        doc.same("not active", kept.replay(0, 2), 0);
        doc.same("not yet there", kept.replay(0, 3), 0);
        doc.same("number", kept.rewind(0), 1);
        doc.same("active", kept.operation(1, 5), 1);
        doc.same("not active", kept.operation(2, 5), 0);
        doc.terms("The replay of a mark is the picture that there was when the mark was set.");
        for (Situation situation : Situation.values()) {
            pictureStays(situation);
        }
    }

    private void pictureStays(Situation situation) {
        int[] colors = new int[256];
        Board asked = situation.make();
        for (int cell = 0; cell < 256; cell++) {
            colors[cell] = asked.color(cell);
        }
        for (int half = 0; half < 256; half += 128) {
            Board board = situation.make();
            board.setMark(3);
            for (int user = 0; user < 5; user++) {
                if (board.user(user, 1) > 0) {
                    board.undo(user);
                }
            }
            if (board.count(1) < 60) {
                board.fill(0, 2, 9, 0);
            }
            if (board.count(0) < 100000) {
                board.pass(1000);
            }
            for (int cell = half; cell < half + 128; cell++) {
                doc.same(situation + " cell " + cell, board.replay(3, cell), colors[cell]);
            }
        }
    }

    private void setMark() {
        doc.promise(15, "Sets a mark, in place of an earlier one.", "`mark`: number of the mark",
            "Returns the number of operations that it keeps.");
        Board board = new Board();
        doc.same("no operation", board.setMark(0), 0);
        doc.same("one set", board.count(7), 1);
        board.draw("0,0", 0, 0, 1);
        board.undo(0);
        doc.same("an undone one", board.setMark(5), 1);
        doc.same("two set", board.count(7), 2);
        board.redo(0);
        doc.same("in place of an earlier one", board.setMark(0), 1);
        doc.same("still two", board.count(7), 2);
        doc.same("the new picture", board.replay(0, 0), 1);
        doc.same("not another mark", board.replay(5, 0), 0);
        Board full = Board.full();
        for (int mark = 0; mark < 6; mark++) {
            doc.same("60", full.setMark(mark), 60);
        }
        doc.same("six", full.count(7), 6);
        Board shorter = new Board();
        shorter.setMark(1);
        shorter.draw("0,0", 0, 0, 1);
        shorter.setMark(2);
        shorter.rewind(1);
        doc.same("an unset mark is set again", shorter.setMark(2), 0);
        doc.same("fewer than before", shorter.difference(2), 0);
        doc.promise(15, "Throws `IndexOutOfBoundsException` if mark is not 0 to 5");
        doc.index("mark", b -> b.setMark(-1), b -> b.setMark(6), b -> b.setMark(LOW), b -> b.setMark(HIGH));
    }

    private void replay() {
        doc.promise(16, "Returns the color of a cell in the replay of a mark.", "`mark`: number of the mark", "`cell`: the cell",
            "Returns the color.");
        Board board = new Board();
        board.draw("0,0", 0, 0, 9);
        board.draw("15,15", 0, 0, 1);
        board.setMark(0);
        board.setMark(5);
        board.fill(1, 2, 4, 100);
        board.undo(0);
        doc.same("first mark and cell", board.replay(0, 0), 9);
        doc.same("last mark and cell", board.replay(5, 255), 1);
        doc.same("blank", board.replay(0, 100), 0);
        doc.same("now", board.color(100), 4);
        doc.promise(16, "Throws `IndexOutOfBoundsException` if mark is not 0 to 5, or the cell does not exist");
        doc.index("mark", b -> b.replay(-1, 0), b -> b.replay(6, 255), b -> b.replay(LOW, 0), b -> b.replay(HIGH, 0));
        doc.index("cell", b -> b.replay(0, -1), b -> b.replay(5, 256), b -> b.replay(3, LOW), b -> b.replay(2, HIGH));
        doc.promise(16, "Throws `IllegalStateException` if the mark is not set");
        doc.stateIn(Situation.NEW, "no mark", b -> b.replay(0, 0), b -> b.replay(5, 255));
        doc.stateIn(Situation.BUSY, "marks 1 and 3", b -> b.replay(1, 0), b -> b.replay(3, 255));
        board.clear();
        doc.stateOf(board, "after clear", b -> b.replay(0, 0));
        doc.stateOf(board, "after clear", b -> b.replay(5, 255));
    }

    private void difference() {
        doc.promise(17, "Counts the cells that show another color in the picture than in the replay of a mark.",
            "`mark`: number of the mark", "Returns the number of cells.");
        Board board = new Board();
        board.setMark(0);
        doc.same("none", board.difference(0), 0);
        board.fill(0, 0, 1, 0);
        doc.same("all", board.difference(0), 256);
        board.setMark(5);
        board.fill(1, 1, 1, 0);
        doc.same("another fill of the same color", board.difference(5), 0);
        board.draw("3,3-5,3", 2, 2, 2);
        doc.same("three cells", board.difference(5), 3);
        doc.same("three cells, which were blank", board.difference(0), 256);
        board.undo(0);
        board.undo(1);
        board.undo(2);
        doc.same("blank again", board.difference(0), 0);
        doc.same("all blank", board.difference(5), 256);
        Board faded = new Board();
        faded.drawFading("0,0-4,0", 0, 1, 2);
        faded.setMark(1);
        faded.pass(1);
        doc.same("a tick before it vanishes", faded.difference(1), 0);
        faded.pass(1);
        doc.same("vanished", faded.difference(1), 5);
        doc.promise(17, "Throws `IndexOutOfBoundsException` if mark is not 0 to 5");
        doc.index("mark", b -> b.difference(-1), b -> b.difference(6), b -> b.difference(LOW), b -> b.difference(HIGH));
        doc.promise(17, "Throws `IllegalStateException` if the mark is not set");
        doc.stateIn(Situation.NEW, "no mark", b -> b.difference(0), b -> b.difference(5));
        doc.stateIn(Situation.BUSY, "marks 1 and 3", b -> b.difference(1), b -> b.difference(3));
        board.clear();
        doc.stateOf(board, "after clear", b -> b.difference(0));
    }

    private void rewind() {
        doc.promise(18, "Goes back to a mark: the operations that were added after it was set are removed from the log for good, "
            + "those before are active as they were, and all redo is forgotten.", "`mark`: number of the mark",
            "Returns how many operations were removed.");
        Board board = new Board();
        board.draw("0,0", 0, 0, 1);
        board.draw("1,0", 1, 0, 2);
        board.draw("2,0", 1, 0, 3);
        board.undo(1);
        board.setMark(0);
        doc.same("none was added", board.rewind(0), 0);
        doc.stateOf(board, "what was undone before the mark is forgotten, too", b -> b.redo(1));
        doc.same("it stays undone", board.operation(2, 5), 0);
        board.undo(0);
        board.draw("3,0", 2, 0, 4);
        board.draw("4,0", 2, 0, 5);
        board.undo(2);
        doc.same("two were added", board.rewind(0), 2);
        doc.same("operations", board.count(1), 3);
        doc.same("active as it was", board.operation(0, 5), 1);
        doc.same("active as it was", board.operation(1, 5), 1);
        doc.same("not active as it was", board.operation(2, 5), 0);
        doc.showsRow("the picture", board, 1, 2, 0, 0, 0);
        for (int user = 0; user < 5; user++) {
            int whose = user;
            doc.same("nothing to redo", board.user(user, 2), 0);
            doc.stateOf(board, "redo is forgotten", b -> b.redo(whose));
        }
        doc.indexOf(board, "removed for good", b -> b.operation(3, 0));
        board.draw("5,0", 3, 0, 6);
        doc.same("the next number", board.top(5), 3);
        doc.same("undo goes on", board.undo(1), 1);
        doc.same("redo of what is undone afterwards", board.redo(1), 1);
        Board full = new Board();
        full.setMark(5);
        for (int i = 0; i < 60; i++) {
            full.fill(0, 0, 1 + i % 9, 0);
        }
        doc.same("60 were added", full.rewind(5), 60);
        doc.same("the log is empty", full.count(1), 0);
        doc.same("room again", full.fill(0, 0, 1, 0), 256);
        Board last = Board.full();
        last.rewind(setMarkAndUndoAll(last));
        doc.same("a full log", last.count(1), 60);
        doc.same("all are active as they were", last.count(2), 60);
    }

    private static int setMarkAndUndoAll(Board board) {
        board.setMark(2);
        for (int user = 0; user < 5; user++) {
            for (int i = 0; i < 12; i++) {
                board.undo(user);
            }
        }
        return 2;
    }

    private void rewindKeeps() {
        doc.promise(18, "The tick, the leases and the marks stay");
        Board board = new Board();
        board.drawFading("0,0", 0, 1, 3);
        board.setMark(1);
        board.setMark(0);
        board.lease(2, 7, 7, 9);
        board.draw("1,0", 1, 0, 1);
        board.pass(3);
        board.type("3,3-");
        board.rewind(0);
        doc.same("the tick", board.count(0), 3);
        doc.same("so it has vanished", board.color(0), 0);
        doc.same("so the picture is not that of the mark", board.difference(0), 1);
        doc.same("the lease", board.holder(7), 2);
        doc.same("marks", board.count(7), 2);
        doc.same("its replay", board.replay(0, 0), 1);
        doc.same("the replay of the other one", board.replay(1, 0), 1);
        doc.same("it can be gone back to again", board.rewind(0), 0);
        doc.same("the buffer", board.clearBuffer(), 4);
        board.pass(5);
        doc.same("the lease is in force", board.holder(7), 2);
        board.pass(1);
        doc.same("and ends as it would", board.holder(7), -1);
    }

    private void rewindUnsetsMarks() {
        doc.promise(18, ", but marks that keep more operations are not set any more.");
        Board board = new Board();
        board.setMark(0);
        board.draw("0,0", 0, 0, 1);
        board.setMark(1);
        board.undo(0);
        board.setMark(2);
        board.draw("1,0", 0, 0, 2);
        board.setMark(3);
        board.draw("2,0", 0, 0, 3);
        board.setMark(5);
        doc.same("five marks", board.count(7), 5);
        doc.same("removed", board.rewind(1), 2);
        doc.same("three marks", board.count(7), 3);
        doc.same("fewer operations: set", board.difference(0), 1);
        doc.same("the mark itself: set", board.difference(1), 0);
        doc.same("as many: set", board.difference(2), 1);
        doc.stateOf(board, "one more: not set", b -> b.difference(3));
        doc.stateOf(board, "two more: not set", b -> b.replay(5, 0));
        doc.stateOf(board, "two more: no way back", b -> b.rewind(5));
        board.draw("4,0", 0, 0, 4);
        board.draw("5,0", 0, 0, 5);
        doc.stateOf(board, "they stay unset when the log grows again", b -> b.difference(3));
        doc.same("as many", board.rewind(2), 2);
        doc.same("not active as at that mark", board.operation(0, 5), 0);
        doc.same("nothing removed", board.rewind(1), 0);
        doc.same("active as at this mark", board.operation(0, 5), 1);
        doc.same("the first one", board.rewind(0), 1);
        doc.same("one mark", board.count(7), 1);
        doc.stateOf(board, "not set", b -> b.difference(1));
        doc.stateOf(board, "not set", b -> b.difference(2));
        for (int back = 0; back < 6; back++) {
            backToOneOfSix(back);
        }
    }

    /** The mark back is set before any operation, the other five behind one. */
    private void backToOneOfSix(int back) {
        Board board = new Board();
        board.setMark(back);
        board.draw("0,0", 0, 0, 1);
        for (int mark = 0; mark < 6; mark++) {
            if (mark != back) {
                board.setMark(mark);
            }
        }
        doc.same("back to " + back, board.rewind(back), 1);
        doc.same("only this one is set", board.count(7), 1);
        for (int mark = 0; mark < 6; mark++) {
            int asked = mark;
            if (mark == back) {
                doc.same("mark " + mark, board.difference(mark), 0);
            } else {
                doc.stateOf(board, "mark " + mark, b -> b.difference(asked));
            }
        }
    }

    private void rewindRefused() {
        doc.promise(18, "Throws `IndexOutOfBoundsException` if mark is not 0 to 5");
        doc.index("mark", b -> b.rewind(-1), b -> b.rewind(6), b -> b.rewind(LOW), b -> b.rewind(HIGH));
        doc.promise(18, "Throws `IllegalStateException` if the mark is not set");
        doc.stateIn(Situation.NEW, "no mark", b -> b.rewind(0), b -> b.rewind(5));
        doc.stateIn(Situation.BUSY, "marks 1 and 3", b -> b.rewind(1), b -> b.rewind(3));
        Board board = Situation.BUSY.make();
        board.clear();
        doc.stateOf(board, "after clear", b -> b.rewind(0));
        doc.stateOf(board, "after clear", b -> b.rewind(5));
    }
}
