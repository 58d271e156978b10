/** The sentences of promises 19 to 22 and 24 to 27. */
final class QuestionSentences {
    private static final int LOW = Sentences.LOW;
    private static final int HIGH = Sentences.HIGH;

    private final Sentences doc;

    QuestionSentences(Sentences doc) {
        this.doc = doc;
    }

    void check() {
        color();
        colorLater();
        top();
        countOperations();
        countCells();
        countHidden();
        countRegions();
        ifSwitched();
        user();
        meanStrength();
        digest();
        questionsChangeNothing();
    }

    private void color() {
        doc.promise(19, "Returns the color of a cell in the picture.", "`cell`: the cell", "Returns the color, 0 if it is blank.");
        Board board = new Board();
        doc.same("blank", board.color(0), 0);
        for (int color = 1; color <= 9; color++) {
            board.draw("0,0-15,15", 0, 0, color);
            doc.same("first cell", board.color(0), color);
            doc.same("last cell", board.color(255), color);
            doc.same("beside it", board.color(254), 0);
        }
        doc.promise(19, "Throws `IndexOutOfBoundsException` if the cell does not exist");
        doc.index("cell", b -> b.color(-1), b -> b.color(256), b -> b.color(LOW), b -> b.color(HIGH));
    }

    private void colorLater() {
        doc.promise(20, "Returns the color that a cell will show later, if nothing is done until then.", "`cell`: the cell",
            "`ticks`: in how many ticks, 0 to 1000", "Returns the color.");
        Board board = new Board();
        board.draw("0,0-15,15", 0, 0, 2);
        board.drawFading("0,0-1,0", 0, 3, 999);
        board.type("0,0").stroke(0, 2, 4, 1);
        int[][] first = {{0, 4}, {1, 3}, {998, 3}, {999, 2}, {1000, 2}};
        for (int[] due : first) {
            doc.same("first cell in " + due[0], board.colorLater(0, due[0]), due[1]);
        }
        doc.same("still there", board.colorLater(1, 998), 3);
        doc.same("vanished", board.colorLater(1, 999), 0);
        doc.same("last cell", board.colorLater(255, 1000), 2);
        doc.same("blank", board.colorLater(254, 0), 0);
        board.pass(998);
        doc.same("from the present tick on", board.colorLater(1, 0), 3);
        doc.same("from the present tick on", board.colorLater(1, 1), 0);
        board.undo(0);
        board.undo(0);
        doc.same("undone ones", board.colorLater(1, 0), 0);
        Board late = new Board().passUpTo(100000);
        late.drawFading("0,0", 0, 3, 999);
        doc.same("beyond the last tick", late.colorLater(0, 998), 3);
        doc.same("beyond the last tick", late.colorLater(0, 999), 0);
        Board same = Situation.BUSY.make();
        for (int cell = 0; cell < 256; cell += 2) {
            doc.same("0 ticks: the color now", same.colorLater(cell, 0), same.color(cell));
        }
        for (int ticks : new int[] {1, 17, 18, 19, 1000}) {
            Board asked = Situation.BUSY.make();
            Board passed = Situation.BUSY.make();
            passed.pass(ticks);
            for (int cell = 0; cell < 256; cell++) {
                doc.same("as when " + ticks + " ticks pass", asked.colorLater(cell, ticks), passed.color(cell));
            }
        }
        doc.promise(20, "Throws `IndexOutOfBoundsException` if the cell does not exist");
        doc.index("cell", b -> b.colorLater(-1, 0), b -> b.colorLater(256, 1000), b -> b.colorLater(LOW, 0),
            b -> b.colorLater(HIGH, 0));
        doc.promise(20, "Throws `IllegalArgumentException` if ticks is not 0 to 1000");
        doc.argument("ticks", b -> b.colorLater(0, -1), b -> b.colorLater(255, 1001), b -> b.colorLater(0, LOW),
            b -> b.colorLater(0, HIGH));
    }

    private void top() {
        doc.promise(21, "Returns the operation that a cell shows.", "`cell`: the cell",
            "Returns the number of the stroke or fill on top; NONE if the cell is blank.");
        Board board = new Board();
        doc.same("blank", board.top(0), -1);
        board.draw("0,0-15,15", 0, 0, 3);
        doc.same("number 0", board.top(0), 0);
        doc.same("last cell", board.top(255), 0);
        doc.same("beside it", board.top(254), -1);
        board.fill(0, 1, 3, 0);
        doc.same("a fill of the same color", board.top(0), 1);
        board.erase("0,0", 1, 1, 0);
        doc.same("erased: not the erasure", board.top(0), -1);
        board.undo(1);
        doc.same("erasure undone", board.top(0), 1);
        board.undo(0);
        doc.same("fill undone", board.top(0), 0);
        Board full = Board.full();
        for (int user = 0; user < 4; user++) {
            for (int i = 0; i < 12; i++) {
                full.undo(user);
            }
        }
        doc.same("number 59", full.top(59), 59);
        Board faded = new Board();
        faded.drawFading("0,0", 0, 3, 1);
        doc.same("not vanished", faded.top(0), 0);
        faded.pass(1);
        doc.same("vanished", faded.top(0), -1);
        doc.promise(21, "Throws `IndexOutOfBoundsException` if the cell does not exist");
        doc.index("cell", b -> b.top(-1), b -> b.top(256), b -> b.top(LOW), b -> b.top(HIGH));
    }

    private void countOperations() {
        doc.promise(22, "Throws `IllegalArgumentException` if what is not 0 to 9");
        doc.argument("what", b -> b.count(-1), b -> b.count(10), b -> b.count(LOW), b -> b.count(HIGH));
        doc.promise(22, "Returns a number.", "`what`: 0: the tick;", "Returns the number.");
        doc.same("first", new Board().count(0), 0);
        doc.same("last", Situation.LAST_TICK.make().count(0), 100000);
        doc.promise(22, "1: operations;", "2: active operations;");
        doc.same("none", new Board().count(1), 0);
        Board board = Board.full();
        for (int undone = 0; undone < 60; undone++) {
            doc.same("operations", board.count(1), 60);
            doc.same("active", board.count(2), 60 - undone);
            board.undo(undone % 5);
        }
        doc.same("no active one", board.count(2), 0);
        Board erasures = new Board();
        erasures.erase("0,0", 0, 0, 0);
        doc.same("an erasure is one", erasures.count(1), 1);
        doc.same("an erasure is active", erasures.count(2), 1);
        doc.promise(22, "5: leases in force;", "6: cells that are in a lease in force;");
        Board leases = new Board();
        doc.same("no lease", leases.count(5), 0);
        doc.same("no cell", leases.count(6), 0);
        leases.lease(0, 0, 17, 3);
        leases.lease(0, 17, 34, 2);
        leases.lease(1, 255, 255, 1);
        doc.same("three", leases.count(5), 3);
        doc.same("cells once", leases.count(6), 8);
        leases.pass(1);
        doc.same("two", leases.count(5), 2);
        doc.same("cells of two", leases.count(6), 7);
        leases.pass(1);
        doc.same("cells of one", leases.count(6), 4);
        leases.pass(1);
        doc.same("no more", leases.count(5), 0);
        doc.same("no cells", leases.count(6), 0);
        for (int i = 0; i < 6; i++) {
            leases.lease(2, 0, 255, 1);
        }
        doc.same("six", leases.count(5), 6);
        doc.same("all cells", leases.count(6), 256);
        doc.promise(22, "7: marks that are set;");
        for (int mark = 0; mark < 6; mark++) {
            doc.same("marks", leases.count(7), mark);
            leases.setMark(mark);
        }
        doc.same("six marks", leases.count(7), 6);
        leases.setMark(5);
        doc.same("still six", leases.count(7), 6);
        leases.clear();
        doc.same("no mark", leases.count(7), 0);
    }

    private void countCells() {
        doc.promise(22, "3: cells that are not blank;");
        Board board = new Board();
        doc.same("all blank", board.count(3), 0);
        board.drawFading("0,0", 0, 1, 2);
        doc.same("one", board.count(3), 1);
        board.fill(0, 0, 2, 255);
        doc.same("all", board.count(3), 256);
        board.pass(1);
        doc.same("a tick before it vanishes", board.count(3), 256);
        board.pass(1);
        doc.same("vanished", board.count(3), 255);
        doc.promise(22, "4: different colors of cells that are not blank;");
        doc.same("none", new Board().count(4), 0);
        Board colors = new Board();
        for (int color = 1; color <= 9; color++) {
            colors.draw(color + ",3", 0, 0, color);
            colors.draw(color + ",5", 0, 0, color);
            doc.same("colors", colors.count(4), color);
        }
        colors.erase("9,3", 0, 0, 0);
        doc.same("there is another cell of this color", colors.count(4), 9);
        colors.erase("9,5", 0, 0, 0);
        doc.same("there is none", colors.count(4), 8);
        doc.same("one color on all cells", colors.fill(0, 2, 7, 255) > 0 ? board.count(4) : -1, 1);
    }

    private void countHidden() {
        doc.promise(22, "8: active strokes and fills that are not vanished and have cells left, but none on top;");
        Board board = new Board();
        board.draw("0,0-3,0", 0, 0, 9);
        doc.same("on top", board.count(8), 0);
        board.draw("0,0-2,0", 1, 0, 9);
        doc.same("one cell on top", board.count(8), 0);
        board.draw("3,0", 2, 1, 9);
        doc.same("hidden, also by the same color", board.count(8), 1);
        board.drawFading("0,0", 3, 8, 5);
        board.draw("0,0", 4, 2, 7);
        doc.same("two", board.count(8), 2);
        board.pass(4);
        doc.same("a tick before it vanishes", board.count(8), 2);
        board.pass(1);
        doc.same("vanished", board.count(8), 1);
        board.undo(0);
        doc.same("not active", board.count(8), 0);
        board.redo(0);
        doc.same("active", board.count(8), 1);
        board.erase("0,0-2,0", 0, 0, 2);
        doc.same("a cell is left below", board.count(8), 1);
        board.erase("3,0", 0, 0, 2);
        doc.same("no cell is left", board.count(8), 0);
        Board fills = new Board();
        for (int i = 0; i < 60; i++) {
            doc.same("hidden fills", fills.count(8), i == 0 ? 0 : i - 1);
            fills.fill(0, 0, 1 + i % 9, 0);
        }
        doc.same("all but one", fills.count(8), 59);
        Board closed = new Board();
        closed.lease(1, 0, 255, 5);
        closed.draw("0,0", 0, 0, 1);
        closed.erase("0,0", 0, 0, 0);
        doc.same("strokes without cells, and erasures", closed.count(8), 0);
    }

    private void countRegions() {
        doc.promise(22, "9: the number of regions: the sets of cells that show the same color (blank ones, too) and can be "
            + "reached from one another by steps between neighbors of this color");
        Board board = new Board();
        doc.same("a blank board", board.count(9), 1);
        board.fill(0, 0, 1, 0);
        doc.same("one color", board.count(9), 1);
        board.draw("8,0-8,15", 0, 0, 2);
        doc.same("two halves and a line", board.count(9), 3);
        board.draw("8,3", 0, 0, 1);
        doc.same("a way between the halves, which cuts the line", board.count(9), 3);
        board.draw("8,4", 0, 1, 2);
        doc.same("another operation of the same color", board.count(9), 3);
        Board checkered = new Board();
        for (int sum = 0; sum <= 30; sum += 2) {
            int x = Math.min(sum, 15);
            checkered.draw(x + "," + (sum - x) + "-" + (sum - x) + "," + x, 0, 0, 1);
        }
        doc.same("every second cell", checkered.count(3), 128);
        doc.same("every cell", checkered.count(9), 256);
        for (int color = 1; color <= 9; color++) {
            Board one = new Board();
            one.draw("3,3", 0, 0, color);
            doc.same("one cell of color " + color, one.count(9), 2);
        }
        Board ring = new Board();
        ring.draw("4,4-8,4-8,8-4,8-4,4", 0, 0, 3);
        doc.same("inside, outside, and the ring", ring.count(9), 3);
        Board edges = new Board();
        edges.draw("0,0-15,0-15,15-0,15-0,0", 0, 0, 3);
        doc.same("along the edges", edges.count(9), 2);
    }

    private void ifSwitched() {
        doc.promise(24, "Returns what the board would be like if an operation were undone (if it is active), or active again (if "
            + "it is not): how many cells of the picture would show another color.", "`operation`: number of the operation",
            "Returns the number of cells.");
        Board board = new Board();
        board.fill(0, 0, 1, 0);
        doc.same("all cells", board.ifSwitched(0), 256);
        board.fill(1, 0, 1, 0);
        doc.same("below the same color", board.ifSwitched(0), 0);
        doc.same("above the same color", board.ifSwitched(1), 0);
        board.erase("3,3", 2, 0, 1);
        doc.same("an erased one", board.ifSwitched(0), 0);
        doc.same("the erasure", board.ifSwitched(2), 256);
        board.undo(2);
        doc.same("the erasure active again", board.ifSwitched(2), 256);
        board.undo(1);
        doc.same("one of the same color active again", board.ifSwitched(1), 0);
        board.undo(0);
        doc.same("active again", board.ifSwitched(0), 256);
        board.draw("0,0", 0, 1, 2);
        doc.same("active again, though it can't be redone", board.ifSwitched(0), 255);
        Board full = Board.full();
        full.setMark(0);
        int supposed = full.ifSwitched(59);
        full.undo(4);
        doc.same("as when it is undone", full.difference(0), supposed);
        doc.same("and back", full.ifSwitched(59), supposed);
        Board faded = new Board();
        faded.drawFading("0,0-2,0", 0, 1, 2);
        faded.pass(1);
        doc.same("a tick before it vanishes", faded.ifSwitched(0), 3);
        faded.pass(1);
        doc.same("vanished", faded.ifSwitched(0), 0);
        doc.promise(24, "Nothing is changed.");
        doc.changesNothing("asking", b -> {
            int operations = b.count(1);
            for (int number = 0; number < operations; number++) {
                b.ifSwitched(number);
            }
        });
        doc.promise(24, "Throws `IndexOutOfBoundsException` if the operation does not exist");
        doc.index("operation", b -> b.ifSwitched(-1), b -> b.ifSwitched(b.count(1)), b -> b.ifSwitched(60),
            b -> b.ifSwitched(LOW), b -> b.ifSwitched(HIGH));
    }

    private void user() {
        doc.promise(25, "Returns a property of a user.", "`user`: user number", "Returns the property.", "`what`: 0: operations;",
            "1: active ones;", "2: operations that can be redone;", "3: cells whose stroke or fill on top belongs to the user;",
            "4: leases in force");
        Board board = new Board();
        board.draw("0,0-5,0", 0, 0, 3);
        board.draw("0,0-1,0", 4, 0, 3);
        board.draw("9,0", 0, 0, 3);
        board.draw("8,0", 0, 0, 3);
        board.erase("5,0", 2, 0, 0);
        board.undo(0);
        board.lease(4, 255, 255, 4);
        board.lease(4, 255, 255, 5);
        board.lease(0, 254, 254, 5);
        int[][] due = {{3, 2, 1, 4, 1}, {0, 0, 0, 0, 0}, {1, 1, 0, 0, 0}, {0, 0, 0, 0, 0}, {1, 1, 0, 2, 2}};
        for (int user = 0; user < 5; user++) {
            for (int what = 0; what < 5; what++) {
                doc.same("user " + user + " " + what, board.user(user, what), due[user][what]);
            }
        }
        board.pass(4);
        doc.same("one lease has ended", board.user(4, 4), 1);
        board.undo(0);
        board.undo(0);
        doc.same("three can be redone", board.user(0, 2), 3);
        board.redo(0);
        doc.same("two can be redone", board.user(0, 2), 2);
        board.fill(0, 0, 1, 255);
        doc.same("none can be redone", board.user(0, 2), 0);
        doc.same("undone ones belong to the user", board.user(0, 0), 4);
        doc.same("two are active", board.user(0, 1), 2);
        doc.same("cells on top, without two of user 4 and a closed one", board.user(0, 3), 253);
        Board one = new Board();
        for (int i = 0; i < 60; i++) {
            one.fill(3, 0, 1, 0);
        }
        for (int i = 0; i < 6; i++) {
            one.lease(3, 0, 255, 1);
        }
        int[] most = {60, 60, 0, 256, 6};
        for (int what = 0; what < 5; what++) {
            doc.same("most of " + what, one.user(3, what), most[what]);
        }
        for (int i = 0; i < 60; i++) {
            one.undo(3);
        }
        doc.same("60 can be redone", one.user(3, 2), 60);
        doc.promise(25, "Throws `IndexOutOfBoundsException` if the user does not exist");
        doc.index("user", b -> b.user(-1, 0), b -> b.user(5, 4), b -> b.user(LOW, 0), b -> b.user(HIGH, 0));
        doc.promise(25, "Throws `IllegalArgumentException` if what is not 0 to 4");
        doc.argument("what", b -> b.user(0, -1), b -> b.user(4, 5), b -> b.user(0, LOW), b -> b.user(0, HIGH));
    }

    private void meanStrength() {
        doc.promise(26, "Returns the mean strength of all cells that are not blank.",
            "Returns the sum, over these cells, of the strengths of the strokes and fills on top, as a double, divided by the "
            + "number of these cells; 0.0 if there are none.");
        Board board = new Board();
        doc.same("no cell", board.meanStrength(), 0.0);
        board.drawFading("0,0", 0, 1, 3);
        doc.same("one cell", board.meanStrength(), 100.0);
        board.pass(1);
        doc.same("rounded down before the sum", board.meanStrength(), 66.0);
        board.draw("1,0-2,0", 0, 0, 1);
        doc.same("a third part", board.meanStrength(), 266.0 / 3.0);
        board.pass(1);
        doc.same("33", board.meanStrength(), 233.0 / 3.0);
        board.pass(1);
        doc.same("a vanished one is blank", board.meanStrength(), 100.0);
        board.drawFading("1,0", 0, 1, 4);
        board.pass(1);
        doc.same("the one on top", board.meanStrength(), 175.0 / 2.0);
        Board weak = new Board();
        weak.drawFading("0,0", 0, 1, 999);
        weak.pass(998);
        doc.same("strength 0, but not blank", weak.meanStrength(), 0.0);
        weak.draw("1,0", 0, 0, 1);
        doc.same("it counts as a cell", weak.meanStrength(), 50.0);
        weak.pass(1);
        doc.same("no more", weak.meanStrength(), 100.0);
        weak.undo(0);
        doc.same("none left", weak.meanStrength(), 0.0);
        Board all = new Board();
        all.fill(0, 0, 1, 0);
        doc.same("all cells", all.meanStrength(), 100.0);
        for (int cell = 0; cell < 256; cell++) {
            Board other = new Board();
            other.fill(0, 0, 1, 0);
            other.drawFading(cell % 16 + "," + cell / 16, 0, 1, 2);
            other.pass(1);
            doc.same("50 at cell " + cell, other.meanStrength(), 25550.0 / 256.0);
        }
    }

    private void digest() {
        doc.promise(27, "Computes a hash of the whole state.", "The hash starts at 1933.",
            "For each value v of the following list, in order, the hash becomes 31 * hash + v, in long arithmetic with overflow.",
            "The values are: count(0) to count(9); for each cell its color; for each operation its properties 0 to 10; for each "
            + "user the properties 0 to 4; for each mark that is set the result of difference; the length of the buffer and each "
            + "of its character codes.", "Returns the hash.");
        long hash = 1933;
        for (int i = 0; i < 10 + 256 + 25 + 1; i++) {
            hash = 31 * hash + (i == 9 ? 1 : 0);
        }
        doc.same("a new board", new Board().digest(), hash);
        for (Situation situation : Situation.values()) {
            doc.same("in " + situation, situation.make().digest(), DueDigest.of(situation::make, situation.text));
        }
        Board marked = new Board();
        for (int mark = 5; mark >= 0; mark--) {
            marked.setMark(mark);
            marked.draw(mark + ",0", 0, 0, 1);
        }
        doc.same("six marks in their order", marked.digest(), DueDigest.of(() -> {
            Board board = new Board();
            for (int mark = 5; mark >= 0; mark--) {
                board.setMark(mark);
                board.draw(mark + ",0", 0, 0, 1);
            }
            return board;
        }, ""));
    }

    private void questionsChangeNothing() {
        doc.cite("Not promised", "Nothing is promised beyond the answers and state changes described above");
        doc.changesNothing("questions", b -> {
            b.firstError();
            b.digest();
            b.meanStrength();
            for (int i = 0; i < 5; i++) {
                b.count(2 * i);
                b.count(2 * i + 1);
                b.user(i, i);
                b.holder(20 * i);
                b.color(20 * i);
                b.top(20 * i);
                b.colorLater(20 * i, 250 * i);
            }
        });
        for (Situation situation : Situation.values()) {
            if (situation != Situation.NEW) {
                doc.unchanged("questions about marks and operations", situation, b -> {
                    b.replay(0, 255);
                    b.difference(0);
                    for (int what = 0; what <= 10; what++) {
                        b.operation(what % 9, what);
                    }
                });
            }
        }
    }
}
