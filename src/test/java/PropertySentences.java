/** The sentences of promise 23. */
final class PropertySentences {
    private static final int LOW = Sentences.LOW;
    private static final int HIGH = Sentences.HIGH;

    private final Sentences doc;

    PropertySentences(Sentences doc) {
        this.doc = doc;
    }

    void check() {
        given();
        active();
        cells();
        left();
        pieces();
        onTop();
        strength();
        exceptions();
    }

    private void given() {
        doc.promise(23, "Returns a property of an operation.", "`operation`: number of the operation", "Returns the property.",
            "`what`: 0: its sort: 0 a stroke, 1 a fill, 2 an erasure;", "1: the user;", "2: the layer;",
            "3: the color, for an erasure its kind;", "4: the tick;");
        Board board = new Board();
        board.draw("0,0", 0, 0, 1);
        board.pass(1);
        board.fill(4, 2, 9, 0);
        board.passUpTo(100000);
        board.erase("0,0", 1, 1, 0);
        board.erase("0,0", 2, 0, 1);
        board.erase("0,0", 3, 2, 2);
        int[][] due = {{0, 0, 0, 1, 0}, {1, 4, 2, 9, 1}, {2, 1, 1, 0, 100000}, {2, 2, 0, 1, 100000}, {2, 3, 2, 2, 100000}};
        for (int number = 0; number < 5; number++) {
            for (int what = 0; what < 5; what++) {
                doc.same("operation " + number + " " + what, board.operation(number, what), due[number][what]);
            }
        }
        Board full = Board.full();
        doc.same("the last operation", full.operation(59, 1), 4);
        doc.same("the last operation", full.operation(59, 2), 2);
        doc.same("the last operation", full.operation(59, 3), 6);
    }

    private void active() {
        doc.promise(23, "5: 1 if it is active, else 0;");
        Board board = new Board();
        board.draw("0,0", 0, 0, 1);
        board.erase("0,0", 1, 0, 0);
        doc.same("a stroke that is erased", board.operation(0, 5), 1);
        doc.same("an erasure", board.operation(1, 5), 1);
        board.undo(1);
        doc.same("undone", board.operation(1, 5), 0);
        board.redo(1);
        doc.same("redone", board.operation(1, 5), 1);
        board.drawFading("0,0", 2, 1, 1);
        board.pass(1);
        doc.same("vanished", board.operation(2, 5), 1);
    }

    private void cells() {
        doc.promise(23, "6: the number of its cells;");
        Board board = new Board();
        board.fill(0, 0, 1, 0);
        doc.same("all", board.operation(0, 6), 256);
        board.lease(1, 0, 15, 9);
        board.draw("0,0-0,3", 0, 0, 1);
        doc.same("without closed ones", board.operation(1, 6), 3);
        board.draw("0,0-5,0", 0, 0, 1);
        doc.same("none", board.operation(2, 6), 0);
        board.erase("0,0-0,4", 0, 0, 1);
        doc.same("of an erasure", board.operation(3, 6), 4);
        doc.same("erased ones, too", board.operation(0, 6), 256);
        board.undo(0);
        doc.same("of an undone erasure, too", board.operation(3, 6), 4);
        board.undo(0);
        board.undo(0);
        doc.same("of an undone stroke, too", board.operation(1, 6), 3);
    }

    private void left() {
        doc.promise(23, "7: the number of its cells that are left (0 for an erasure, or if it is not active);");
        Board board = new Board();
        board.fill(0, 0, 1, 0);
        doc.same("all", board.operation(0, 7), 256);
        board.erase("0,0-15,0", 1, 0, 0);
        doc.same("cut", board.operation(0, 7), 240);
        doc.same("an erasure", board.operation(1, 7), 0);
        board.fill(2, 2, 3, 255);
        doc.same("covered ones", board.operation(0, 7), 240);
        board.undo(0);
        doc.same("not active", board.operation(0, 7), 0);
        board.redo(0);
        doc.same("active", board.operation(0, 7), 240);
        board.undo(1);
        doc.same("an undone erasure", board.operation(1, 7), 0);
        doc.same("all again", board.operation(0, 7), 256);
        Board faded = new Board();
        faded.drawFading("0,0-4,0", 0, 1, 1);
        faded.pass(1);
        doc.same("vanished ones", faded.operation(0, 7), 5);
        faded.erase("0,0", 0, 0, 1);
        doc.same("none", faded.operation(0, 7), 0);
    }

    private void pieces() {
        doc.promise(23, "8: its pieces, the number of sets, as large as possible, of cells that are left and can be reached from "
            + "one another by steps between near cells that are left;");
        Board board = new Board();
        board.draw("0,0-15,0", 0, 0, 1);
        doc.same("one", board.operation(0, 8), 1);
        for (int x = 1; x < 16; x += 2) {
            board.erase(x + ",0", 0, 0, 0);
            doc.same("cut " + x, board.operation(0, 8), x == 15 ? 8 : (x + 3) / 2);
        }
        doc.same("an erasure", board.operation(1, 8), 0);
        board.fill(1, 2, 4, 255);
        doc.same("covered", board.operation(0, 8), 8);
        board.erase("0,0-14,0", 0, 0, 0);
        doc.same("none is left", board.operation(0, 8), 0);
        Board diagonal = new Board();
        diagonal.draw("0,0-15,15", 0, 0, 1);
        doc.same("a diagonal", diagonal.operation(0, 8), 1);
        diagonal.erase("7,7", 0, 0, 0);
        doc.same("a diagonal in two", diagonal.operation(0, 8), 2);
        diagonal.undo(0);
        diagonal.undo(0);
        doc.same("not active", diagonal.operation(0, 8), 0);
        Board crossed = new Board();
        crossed.fill(0, 0, 1, 0);
        crossed.erase("8,0-8,15", 0, 0, 0);
        doc.same("two halves", crossed.operation(0, 8), 2);
        crossed.erase("0,8-15,8", 0, 0, 0);
        doc.same("four quarters", crossed.operation(0, 8), 4);
        // Arms that lead downwards, upwards to the left and upwards to the right, by diagonal steps alone.
        String[] bent = {"0,2-2,4-4,2", "4,1-2,3-1,2", "0,0-4,4-0,8", "8,0-4,4-8,8", "0,15-7,8-14,15", "9,2-5,6-2,3"};
        for (String path : bent) {
            Board arms = new Board();
            arms.draw(path, 0, 0, 1);
            doc.same("one piece along " + path, arms.operation(0, 8), 1);
        }
        Board slanted = new Board();
        slanted.fill(0, 0, 1, 0);
        slanted.erase("0,15-15,0", 0, 0, 0);
        doc.same("near cells reach over a diagonal cut", slanted.operation(0, 8), 1);
        Board faded = new Board();
        faded.drawFading("0,0-4,0", 0, 1, 1);
        faded.erase("2,0", 0, 0, 0);
        faded.pass(1);
        doc.same("vanished", faded.operation(0, 8), 2);
    }

    private void onTop() {
        doc.promise(23, "9: the number of cells where it is on top;");
        Board board = new Board();
        board.fill(0, 0, 1, 0);
        doc.same("all", board.operation(0, 9), 256);
        board.draw("0,0-15,0", 1, 0, 1);
        doc.same("below the same color", board.operation(0, 9), 240);
        doc.same("above", board.operation(1, 9), 16);
        board.type("0,0-0,15").stroke(2, 2, 3, 1);
        doc.same("highest", board.operation(2, 9), 16);
        doc.same("between", board.operation(1, 9), 15);
        board.pass(1);
        doc.same("vanished", board.operation(2, 9), 0);
        doc.same("free again", board.operation(1, 9), 16);
        board.erase("0,0-3,0", 1, 0, 2);
        doc.same("erased", board.operation(1, 9), 12);
        doc.same("an erasure", board.operation(3, 9), 0);
        board.undo(0);
        doc.same("not active", board.operation(0, 9), 0);
        board.fill(4, 1, 2, 255);
        doc.same("around", board.operation(4, 9), 244);
        board.fill(4, 2, 2, 8);
        doc.same("wholly covered", board.operation(1, 9), 0);
        Board full = new Board();
        for (int number = 0; number < 60; number++) {
            full.fill(number % 5, 0, 1, 0);
            doc.same("number " + number, full.operation(number, 9), 256);
            full.pass(1);
            doc.same("number " + number + " later", full.operation(number, 9), 256);
        }
        full.undo(4);
        doc.same("the last one, not active", full.operation(59, 9), 0);
        doc.same("the one before", full.operation(58, 9), 256);
    }

    private void strength() {
        doc.promise(23, "10: its strength (0 for an erasure)");
        Board board = new Board();
        board.drawFading("0,0", 0, 1, 8);
        board.drawFading("1,0", 1, 1, 0);
        board.fill(2, 0, 1, 255);
        board.erase("9,9", 3, 0, 0);
        int[] due = {100, 87, 75, 62, 50, 37, 25, 12, 0, 0};
        for (int tick = 0; tick < due.length; tick++) {
            doc.same("at " + tick, board.operation(0, 10), due[tick]);
            doc.same("without fading", board.operation(1, 10), 100);
            doc.same("a fill", board.operation(2, 10), 100);
            doc.same("an erasure", board.operation(3, 10), 0);
            board.pass(1);
        }
        Board covered = new Board();
        covered.drawFading("0,0", 0, 1, 4);
        covered.pass(1);
        covered.fill(1, 2, 1, 255);
        covered.fill(1, 2, 2, 0);
        doc.same("covered", covered.operation(0, 10), 75);
        covered.erase("0,0", 1, 0, 1);
        doc.same("erased", covered.operation(0, 10), 75);
    }

    private void exceptions() {
        doc.promise(23, "Throws `IndexOutOfBoundsException` if the operation does not exist");
        doc.index("operation", b -> b.operation(-1, 0), b -> b.operation(b.count(1), 10), b -> b.operation(60, 0),
            b -> b.operation(LOW, 0), b -> b.operation(HIGH, 0));
        Board removed = new Board();
        removed.setMark(0);
        removed.draw("0,0", 0, 0, 1);
        removed.rewind(0);
        doc.indexOf(removed, "removed by rewind", b -> b.operation(0, 0));
        doc.promise(23, "Throws `IllegalArgumentException` if what is not 0 to 10");
        for (Situation situation : Situation.values()) {
            if (situation != Situation.NEW) {
                doc.argumentIn(situation, "what", b -> b.operation(0, -1), b -> b.operation(b.count(1) - 1, 11),
                    b -> b.operation(0, LOW), b -> b.operation(0, HIGH));
            }
        }
    }
}
