/** The sentences of promises 1 to 3, and those of "Terms" about exceptions. */
final class BoardSentences {
    private final Sentences doc;

    BoardSentences(Sentences doc) {
        this.doc = doc;
    }

    void check() {
        newObject();
        clear();
        pass();
        orderOfExceptions();
        orderWithStates();
    }

    private void newObject() {
        doc.promise(1, "Creates a blank board without leases and marks, with an empty buffer.");
        Board board = new Board();
        for (int what = 0; what < 10; what++) {
            doc.same("count " + what, board.count(what), what == 9 ? 1 : 0);
        }
        for (int cell = 0; cell < 256; cell++) {
            doc.same("color of " + cell, board.color(cell), 0);
            doc.same("holder of " + cell, new Board().holder(cell), -1);
        }
        for (int user = 0; user < 5; user++) {
            for (int what = 0; what < 5; what++) {
                doc.same("user " + user + " " + what, board.user(user, what), 0);
            }
        }
        for (int mark = 0; mark < 6; mark++) {
            int asked = mark;
            doc.stateOf(board, "mark " + mark, b -> b.difference(asked));
        }
        doc.indexOf(board, "no operation", b -> b.operation(0, 0));
        doc.same("firstError", board.firstError(), 0);
        doc.same("length of the buffer", board.clearBuffer(), 0);
        Board other = Situation.BUSY.make();
        doc.same("another object is another board", other.count(3) > 0 ? new Board().count(3) : -1, 0);
    }

    private void clear() {
        doc.promise(2, "Makes the board blank: the log is empty, there are no leases and no marks, and the tick is 0.",
            "The buffer stays.");
        for (Situation situation : Situation.values()) {
            doc.alike("after " + situation, () -> {
                Board board = situation.make();
                board.clear();
                return board;
            }, () -> Board.typed(situation.text));
        }
        Board board = Situation.BUSY.make();
        board.clear();
        for (int what = 0; what < 10; what++) {
            doc.same("count " + what, board.count(what), what == 9 ? 1 : 0);
        }
        doc.same("the text is a path as before", board.stroke(0, 0, 1, 0), 3);
        afterClear();
        doc.promise(2, "Returns how many operations the log had.");
        doc.same("none", new Board().clear(), 0);
        doc.same("nine, undone ones among them", Situation.BUSY.make().clear(), 9);
        doc.same("60", Situation.FULL_LOG.make().clear(), 60);
        doc.same("again", board.clear(), 1);
        doc.same("and again", board.clear(), 0);
    }

    /** Nothing of an operation or a lease before comes back in a later one. */
    private void afterClear() {
        Board board = new Board();
        board.drawFading("0,0-15,15", 0, 1, 1);
        board.lease(0, 0, 255, 1);
        board.clear();
        doc.same("a lease", board.lease(1, 7, 7, 9), 1);
        doc.same("its cells", board.count(6), 1);
        doc.same("a fill", board.fill(0, 0, 2, 0), 255);
        board.pass(1);
        doc.same("it does not fade", board.count(3), 255);
        board.clear();
        board.draw("8,8", 0, 0, 3);
        board.fill(0, 0, 4, 0);
        board.clear();
        board.draw("0,0-0,0", 0, 0, 3);
        doc.same("a stroke of one cell", board.count(3), 1);
        doc.same("a fill of one cell", board.fill(0, 0, 4, 0), 1);
        doc.same("and no other", board.count(3), 1);
    }

    private void pass() {
        doc.promise(3, "Lets ticks pass.", "Returns the tick afterwards.", "`ticks`: 1 to 1000");
        Board board = new Board();
        doc.same("the lowest", board.pass(1), 1);
        doc.same("the highest", board.pass(1000), 1001);
        doc.same("the tick", board.count(0), 1001);
        doc.same("on", board.pass(998), 1999);
        board.clear();
        doc.same("from 0 again", board.pass(7), 7);
        doc.promise(3, "Throws `IllegalArgumentException` if ticks is not 1 to 1000");
        doc.argument("ticks", b -> b.pass(0), b -> b.pass(-1), b -> b.pass(1001), b -> b.pass(Sentences.LOW),
            b -> b.pass(Sentences.HIGH), b -> b.pass(Sentences.HIGH - 99999));
        doc.promise(3, "Throws `IllegalStateException` if the tick would be greater than 100000");
        doc.stateIn(Situation.LAST_TICK, "at tick 100000", b -> b.pass(1), b -> b.pass(2), b -> b.pass(1000));
        Board end = new Board().passUpTo(99000);
        doc.same("just up to it", end.pass(1000), 100000);
        Board near = new Board().passUpTo(99001);
        doc.stateOf(near, "one more than it", b -> b.pass(1000));
        doc.same("the tick stays", near.count(0), 99001);
        doc.same("what is left", near.pass(998), 99999);
        doc.stateOf(near, "two of one that is left", b -> b.pass(2));
        doc.same("the last one", near.pass(1), 100000);
        doc.stateOf(near, "one more", b -> b.pass(1));
    }

    /** Wrong arguments come in all situations, so that exceptions for the state apply in some of them, too. */
    private void orderOfExceptions() {
        doc.terms("Exceptions. A call that throws an exception changes nothing.");
        doc.index("each call with an index", b -> b.stroke(5, 0, 1, 0), b -> b.erase(5, 0, 0), b -> b.fill(5, 0, 1, 0),
            b -> b.undo(5), b -> b.redo(5), b -> b.lease(5, 0, 0, 1), b -> b.release(5), b -> b.holder(256),
            b -> b.setMark(6), b -> b.replay(6, 0), b -> b.difference(6), b -> b.rewind(6), b -> b.color(256),
            b -> b.colorLater(256, 0), b -> b.top(256), b -> b.operation(60, 0), b -> b.ifSwitched(60), b -> b.user(5, 0));
        doc.argument("each call with an argument", b -> b.pass(0), b -> b.append(32), b -> b.stroke(0, 0, 0, 0),
            b -> b.erase(0, 0, 3), b -> b.fill(0, 0, 0, 0), b -> b.lease(0, 0, 0, 0), b -> b.colorLater(0, -1),
            b -> b.count(10), b -> b.user(0, 5));
        doc.stateIn(Situation.NEW, "in a new board", b -> b.stroke(0, 0, 1, 0), b -> b.erase(0, 0, 0), b -> b.undo(0),
            b -> b.redo(0), b -> b.replay(0, 0), b -> b.difference(0), b -> b.rewind(0));
        doc.stateIn(Situation.FULL_LOG, "in a full log", b -> b.stroke(0, 0, 1, 0), b -> b.erase(0, 0, 0),
            b -> b.fill(0, 0, 1, 0));
        doc.stateIn(Situation.FULL_BUFFER, "in a full buffer", b -> b.append(48), b -> b.stroke(0, 0, 1, 0));
        doc.terms("If several exceptions apply, the one that is named first in the throws clause is thrown.");
        doc.index("index before argument", b -> b.stroke(-1, 0, 0, 0), b -> b.stroke(0, 3, 1, 1000),
            b -> b.stroke(5, -1, 10, -1), b -> b.erase(5, 0, 3), b -> b.erase(0, -1, -1), b -> b.fill(5, 0, 0, 0),
            b -> b.fill(0, 3, 10, 0), b -> b.fill(0, 0, 0, 256), b -> b.fill(0, 0, 10, -1), b -> b.lease(-1, 0, 0, 0),
            b -> b.lease(0, 256, 0, 1000), b -> b.lease(0, 0, -1, 0), b -> b.colorLater(256, -1),
            b -> b.colorLater(-1, 1001), b -> b.operation(60, 11), b -> b.operation(-1, -1), b -> b.user(5, 5),
            b -> b.user(-1, -1));
        doc.argument("argument before state", b -> b.pass(1001), b -> b.append(127), b -> b.stroke(0, 0, 10, 0),
            b -> b.stroke(0, 0, 1, 1000), b -> b.erase(0, 0, -1), b -> b.fill(0, 0, 10, 0));
        doc.index("index before state", b -> b.undo(5), b -> b.redo(-1), b -> b.replay(-1, 0), b -> b.replay(1, 256),
            b -> b.replay(3, -1), b -> b.difference(-1), b -> b.rewind(6));
    }

    /** The same, with the states named in which the later exception applies, too. */
    private void orderWithStates() {
        Situation[] noPath = {Situation.NEW, Situation.UNFINISHED_TEXT, Situation.WRONG_TEXT, Situation.FULL_BUFFER,
            Situation.FULL_LOG};
        for (Situation situation : noPath) {
            doc.stateIn(situation, "a stroke and an erasure are refused for the state alone",
                b -> b.stroke(0, 0, 1, 0), b -> b.erase(0, 0, 0));
        }
        doc.stateIn(Situation.LAST_TICK, "a pass is refused for the state alone", b -> b.pass(1));
        Board unset = Situation.BUSY.make();
        doc.stateOf(unset, "mark 1 is not set", b -> b.replay(1, 0));
        doc.stateOf(unset, "mark 3 is not set", b -> b.replay(3, 255));
        doc.stateOf(unset, "nothing of user 3 was undone", b -> b.redo(3));
        doc.stateOf(unset, "user 1 has nothing active", b -> b.undo(1));
    }
}
