import java.util.Arrays;

/** The sentences of "Terms" (and of "What it is") that tell the board, operations, strokes, leases and erasures. */
final class TermsSentences {
    private final Sentences doc;

    TermsSentences(Sentences doc) {
        this.doc = doc;
    }

    void check() {
        use();
        board();
        neighbors();
        nearCells();
        operations();
        paths();
        lines();
        leases();
        closedCells();
        erasures();
        kinds();
        fading();
        picture();
        fills();
        constants();
    }

    private void use() {
        doc.cite("What it is", "An object is used for at most 512 calls after it has been made");
        Board board = new Board();
        board.draw("0,0-15,15", 0, 0, 3);
        board.setMark(0);
        for (int i = 0; board.calls() < Board.MOST_CALLS - 4; i++) {
            doc.same("call " + board.calls(), board.color(i % 256), i % 256 % 17 == 0 ? 3 : 0);
        }
        doc.same("call 509", board.undo(0), 0);
        doc.same("call 510", board.difference(0), 16);
        doc.same("call 511", board.redo(0), 0);
        doc.same("call 512", board.count(3), 16);
        doc.terms("All operations are kept in a log, each user can undo and redo, and the board can be replayed exactly "
            + "as it was at any mark.");
        Board all = new Board();
        for (int user = 0; user < 5; user++) {
            all.draw(user + ",0", user, 0, 1 + user);
            all.setMark(user);
        }
        for (int user = 0; user < 5; user++) {
            doc.same("undo of " + user, all.undo(user), user);
        }
        for (int mark = 0; mark < 5; mark++) {
            for (int cell = 0; cell < 6; cell++) {
                doc.same("mark " + mark + " cell " + cell, all.replay(mark, cell), cell <= mark ? 1 + cell : 0);
            }
        }
        for (int user = 0; user < 5; user++) {
            doc.same("redo of " + user, all.redo(user), user);
        }
    }

    private void board() {
        doc.terms("The board. The board has 16 columns and 16 rows of cells.");
        doc.same("all cells", new Board().fill(0, 0, 1, 0), 256);
        doc.same("last column", Board.typed("15,0").stroke(0, 0, 1, 0), 1);
        doc.same("last row", Board.typed("0,15").stroke(0, 0, 1, 0), 1);
        doc.same("no column 16", Board.typed("16,0").firstError(), 1);
        doc.same("no row 16", Board.typed("0,16").firstError(), 3);
        doc.index("no cell -1 and 256", b -> b.color(-1), b -> b.color(256));
        doc.terms("The cell in column x of row y (both from 0) has the number 16 * y + x.");
        for (int x = 0; x < 16; x++) {
            for (int y = 0; y < 16; y++) {
                Board board = new Board();
                board.draw(x + "," + y, 0, 0, 4);
                doc.showsOnly(x + "," + y, board, 4, 16 * y + x);
            }
        }
        doc.terms("There are 5 users, 0 to 4, and 3 layers, 0 to 2.");
        for (int user = 0; user < 5; user++) {
            for (int layer = 0; layer < 3; layer++) {
                Board board = new Board();
                doc.same("stroke", board.draw("1,1", user, layer, 1), 1);
                doc.same("user", board.operation(0, 1), user);
                doc.same("layer", board.operation(0, 2), layer);
            }
        }
        doc.index("no user -1 and 5", b -> b.user(-1, 0), b -> b.user(5, 0));
        doc.index("no layer -1 and 3", b -> b.fill(0, -1, 1, 0), b -> b.fill(0, 3, 1, 0));
        doc.terms("The tick is 0 at first.");
        doc.same("tick", new Board().count(0), 0);
        doc.same("first step", new Board().pass(1), 1);
    }

    private static Board twoCells(String some, String other) {
        Board board = new Board();
        board.draw(some, 0, 0, 6);
        board.draw(other, 0, 0, 6);
        return board;
    }

    private void neighbors() {
        doc.terms("Two cells are neighbors if they are beside each other in the same row or column");
        for (String beside : new String[] {"7,8", "9,8", "8,7", "8,9"}) {
            Board board = twoCells("8,8", beside);
            doc.same("one region and the blank one, " + beside, board.count(9), 2);
            doc.same("a fill takes both, " + beside, board.fill(0, 0, 2, 136), 2);
        }
        for (String apart : new String[] {"7,7", "9,7", "7,9", "9,9", "8,6", "6,8"}) {
            Board board = twoCells("8,8", apart);
            doc.same("two regions and the blank one, " + apart, board.count(9), 3);
            doc.same("a fill takes one, " + apart, board.fill(0, 0, 2, 136), 1);
        }
        int[][] aroundTheEdge = {{79, 80}, {64, 79}, {4, 244}, {15, 240}, {0, 255}};
        for (int[] cells : aroundTheEdge) {
            Board board = twoCells(cells[0] % 16 + "," + cells[0] / 16, cells[1] % 16 + "," + cells[1] / 16);
            doc.same("no step around the edge from " + cells[0], board.count(9), 3);
            doc.same("no fill around the edge from " + cells[0], board.fill(0, 0, 2, cells[0]), 1);
        }
        Board top = new Board();
        top.draw("0,1-15,1", 0, 0, 6);
        doc.same("a fill in row 0 stays there", top.fill(0, 0, 2, 0), 16);
        Board bottom = new Board();
        bottom.draw("0,14-15,14", 0, 0, 6);
        doc.same("a fill in row 15 stays there", bottom.fill(0, 0, 2, 255), 16);
        Board left = new Board();
        left.draw("1,0-1,15", 0, 0, 6);
        doc.same("a fill in column 0 stays there", left.fill(0, 0, 2, 0), 16);
        Board right = new Board();
        right.draw("14,0-14,15", 0, 0, 6);
        doc.same("a fill in column 15 stays there", right.fill(0, 0, 2, 255), 16);
    }

    /** A stroke along two points, of which only the ends are left. */
    private static Board ends(int x1, int y1, int x2, int y2) {
        Board board = new Board();
        board.draw(x1 + "," + y1 + "-" + x2 + "," + y2, 0, 0, 6);
        for (int cell = 0; cell < 256; cell++) {
            boolean end = cell == 16 * y1 + x1 || cell == 16 * y2 + x2;
            if (!end && board.color(cell) != 0) {
                board.erase(cell % 16 + "," + cell / 16, 0, 0, 0);
            }
        }
        return board;
    }

    private void nearCells() {
        doc.terms(", and near if they are neighbors or diagonal neighbors.");
        for (int x = 7; x <= 9; x++) {
            for (int y = 7; y <= 9; y++) {
                doc.same("near 8,8 is " + x + "," + y, ends(8, 8, x, y).operation(0, 8), 1);
            }
        }
        int[][] apart = {{8, 8, 10, 8}, {8, 8, 8, 6}, {8, 8, 10, 10}, {8, 8, 6, 10}, {8, 8, 9, 10}, {8, 8, 7, 6},
            {0, 3, 15, 3}, {15, 3, 0, 4}, {15, 3, 0, 5}, {0, 3, 15, 2}, {3, 0, 3, 15}, {0, 0, 15, 15}, {15, 0, 0, 15}};
        for (int[] cells : apart) {
            Board board = ends(cells[0], cells[1], cells[2], cells[3]);
            doc.same("two are left", board.operation(0, 7), 2);
            doc.same("not near: " + Arrays.toString(cells), board.operation(0, 8), 2);
        }
    }

    private void operations() {
        doc.terms("Operations. The log contains at most 60 operations, numbered from 0.");
        Board board = new Board();
        for (int number = 0; number < 60; number++) {
            doc.same("operations", board.count(1), number);
            board.fill(0, 0, 1 + number % 9, 0);
            doc.same("number", board.top(0), number);
        }
        doc.stateOf(board, "a 61st", b -> b.fill(0, 0, 1, 0));
        doc.same("60", board.count(1), 60);
        doc.same("the last", board.operation(59, 3), 1 + 59 % 9);
        board.undo(0);
        doc.stateOf(board, "undone ones stay in the log", b -> b.fill(1, 0, 1, 0));
        doc.terms("An operation is a stroke, a fill or an erasure.");
        Board sorts = new Board();
        sorts.draw("1,1", 0, 0, 1);
        sorts.fill(0, 0, 2, 0);
        sorts.erase("1,1", 0, 0, 0);
        for (int sort = 0; sort < 3; sort++) {
            doc.same("sort", sorts.operation(sort, 0), sort);
        }
        doc.terms("It belongs to a user and has a tick (the one at which it was added), a layer, and a set of cells; strokes "
            + "and fills also have a color from 1 to 9, and a fading time from 0 to 999.");
        Board late = new Board().passUpTo(100000);
        late.type("1,1-1,3").stroke(4, 2, 9, 999);
        int[] due = {0, 4, 2, 9, 100000, 1, 3, 3, 1, 3, 100};
        for (int what = 0; what <= 10; what++) {
            doc.same("property " + what + " at the last tick", late.operation(0, what), due[what]);
        }
        Board first = new Board();
        first.type("0,0").stroke(0, 0, 1, 0);
        first.pass(5);
        doc.same("the tick stays", first.operation(0, 4), 0);
        doc.same("the lowest color", first.operation(0, 3), 1);
        doc.terms("An operation is active unless it has been undone.");
        doc.same("added", first.operation(0, 5), 1);
        first.undo(0);
        doc.same("undone", first.operation(0, 5), 0);
        first.redo(0);
        doc.same("redone", first.operation(0, 5), 1);
    }

    private void paths() {
        doc.terms("The cells of a stroke. A stroke is given by a path of 1 to 6 points (cells).");
        String path = "";
        for (int points = 1; points <= 6; points++) {
            path = path + (points == 1 ? "" : "-") + (points - 1) + ",3";
            doc.same(points + " points", Board.typed(path).stroke(0, 0, 1, 0), points);
        }
        doc.stateOf(Board.typed(path + "-6,3"), "7 points", b -> b.stroke(0, 0, 1, 0));
        doc.stateOf(new Board(), "no point", b -> b.stroke(0, 0, 1, 0));
        doc.terms("With one point, its cells are this point.");
        for (int cell : new int[] {0, 15, 240, 255, 119}) {
            Board board = new Board();
            doc.same("one cell", board.draw(cell % 16 + "," + cell / 16, 0, 0, 5), 1);
            doc.showsOnly("one point", board, 5, cell);
        }
        doc.terms("Otherwise they are the cells of the lines from each point to the next one.");
        Board open = new Board();
        doc.same("not from the last to the first", open.draw("0,0-3,0-3,3", 0, 0, 5), 7);
        doc.showsOnly("an open path", open, 5, 0, 1, 2, 3, 19, 35, 51);
        doc.same("a cell that two lines have counts once", new Board().draw("0,0-3,0-0,0", 0, 0, 5), 4);
        doc.same("a point twice", new Board().draw("2,2-2,2-2,3", 0, 0, 5), 2);
        doc.same("five lines", new Board().draw("0,0-15,0-15,15-0,15-0,2-13,2", 0, 0, 5), 16 + 15 + 15 + 13 + 13);
        doc.terms("An erasure has a path in the same way.");
        for (String text : new String[] {"4,4", "0,0-3,1", "0,0-15,0-15,15-0,15-0,2-13,2"}) {
            Board board = new Board();
            int cells = board.draw(text, 0, 0, 5);
            doc.same("it takes just the cells of the stroke", board.erase(text, 1, 0, 0), cells);
            doc.same("cells", board.operation(1, 6), cells);
        }
        doc.stateOf(Board.typed(path + "-6,3"), "7 points", b -> b.erase(0, 0, 0));
    }

    private void line(String path, int... cells) {
        Board board = new Board();
        doc.same("size of " + path, board.draw(path, 0, 0, 6), cells.length);
        doc.showsOnly(path, board, 6, cells);
    }

    private void lines() {
        doc.terms("The cells of a line from (x1, y1) to (x2, y2) are computed like this: let n be the greater one of "
            + "|x2 - x1| and |y2 - y1|.");
        for (int x = 0; x < 16; x++) {
            for (int y = 0; y < 16; y++) {
                int cells = Math.max(Math.abs(x - 5), Math.abs(y - 9)) + 1;
                doc.same("from 5,9 to " + x + "," + y, new Board().draw("5,9-" + x + "," + y, 0, 0, 6), cells);
            }
        }
        doc.terms("For k from 0 to n, the cell is (x1 + r(k * (x2 - x1)), y1 + r(k * (y2 - y1))), where r(v) is v / n, rounded "
            + "to the nearest integer, and halves are rounded away from zero (for n = 0 there is just the cell (x1, y1)).");
        line("5,5-5,5", 85);
        line("0,0-0,0", 0);
        line("0,0-15,0", 0, 1, 2, 3, 4, 5, 6, 7, 8, 9, 10, 11, 12, 13, 14, 15);
        line("15,15-15,13", 255, 239, 223);
        // n = 2: the middle is a half, away from the first point.
        line("4,4-6,5", 68, 85, 86);
        line("6,5-4,4", 86, 69, 68);
        line("4,5-6,4", 84, 69, 70);
        line("6,4-4,5", 70, 85, 84);
        line("4,4-5,6", 68, 85, 101);
        line("5,6-4,4", 101, 84, 68);
        line("5,4-4,6", 69, 84, 100);
        line("4,6-5,4", 100, 85, 69);
        // n = 6 with 3 rows: halves at k = 1, 3 and 5.
        line("0,0-6,3", 0, 17, 18, 35, 36, 53, 54);
        line("6,3-0,0", 54, 37, 36, 19, 18, 1, 0);
        // n = 3 and 5: thirds and fifths to the nearest.
        line("0,0-3,1", 0, 1, 18, 19);
        line("0,0-3,2", 0, 17, 18, 35);
        line("3,0-0,2", 3, 18, 17, 32);
        line("0,0-5,2", 0, 1, 18, 19, 36, 37);
        line("5,2-0,0", 37, 36, 19, 18, 1, 0);
        line("0,0-1,5", 0, 16, 32, 49, 65, 81);
        line("0,0-15,1", 0, 1, 2, 3, 4, 5, 6, 7, 24, 25, 26, 27, 28, 29, 30, 31);
        for (int width = -15; width <= 15; width++) {
            for (int height = -15; height <= 15; height++) {
                direction(width, height);
            }
        }
    }

    /** The line of this width and height, from a corner of the board. */
    private void direction(int width, int height) {
        int x = width < 0 ? 15 : 0;
        int y = height < 0 ? 15 : 0;
        int n = Math.max(Math.abs(width), Math.abs(height));
        int[] cells = new int[n + 1];
        for (int k = 0; k <= n; k++) {
            cells[k] = 16 * (y + nearest(k * height, n)) + x + nearest(k * width, n);
        }
        line(x + "," + y + "-" + (x + width) + "," + (y + height), cells);
    }

    /** Of all integers the one that is nearest to v / n; of two such the one further from zero. */
    private static int nearest(int v, int n) {
        int best = 0;
        for (int tried = -15; tried <= 15; tried++) {
            int closer = Math.abs(best * n - v) - Math.abs(tried * n - v);
            if (closer > 0 || closer == 0 && Math.abs(tried) > Math.abs(best) && n > 0) {
                best = tried;
            }
        }
        return best;
    }

    private void leases() {
        doc.terms("Leases. A lease belongs to a user, and consists of a rectangle of cells and the tick at which it ends.");
        Board board = new Board();
        board.lease(3, 17, 51, 4);
        for (int cell = 0; cell < 256; cell++) {
            int x = cell % 16;
            int y = cell / 16;
            doc.same("cell " + cell, board.holder(cell), x >= 1 && x <= 3 && y >= 1 && y <= 3 ? 3 : -1);
        }
        doc.terms("It is in force as long as the tick is less than its end.");
        Board time = new Board();
        time.pass(10);
        time.lease(0, 5, 5, 7);
        doc.same("at its beginning", time.count(5), 1);
        time.pass(6);
        doc.same("a tick before its end", time.count(5), 1);
        doc.same("a tick before its end, still closed", time.draw("5,0", 1, 0, 1), 0);
        time.pass(1);
        doc.same("at its end", time.count(5), 0);
        doc.same("at its end, open", time.draw("5,0", 1, 0, 1), 1);
        Board last = new Board().passUpTo(100000);
        doc.same("beyond the last tick", last.lease(0, 5, 5, 999), 1);
        doc.same("in force", last.holder(5), 0);
    }

    private void closedCells() {
        doc.terms("A cell is closed for a user if it is in a lease of another user that is in force.");
        for (int user = 0; user < 5; user++) {
            Board board = new Board();
            board.lease(2, 5, 5, 3);
            doc.same("for user " + user, board.draw("5,0", user, 0, 1), user == 2 ? 1 : 0);
            doc.same("beside it", board.draw("4,0", user, 0, 1), 1);
        }
        Board six = new Board();
        for (int i = 0; i < 6; i++) {
            six.lease(0, 17 * i, 17 * i, 3);
        }
        for (int i = 0; i < 6; i++) {
            doc.same("by lease " + i + " of six", six.draw(i + "," + i, 1, 0, 1), 0);
        }
        doc.terms("When an operation is added, the cells that are closed for its user are left out of its set of cells; later "
            + "changes of leases do not change it any more.");
        Board board = new Board();
        board.lease(1, 2, 3, 5);
        doc.same("a stroke", board.draw("0,0-4,0", 0, 0, 4), 3);
        doc.same("a fill", board.fill(0, 0, 5, 255), 256 - 5);
        doc.same("number of cells", board.operation(1, 6), 251);
        board.release(1);
        doc.same("the lease has gone, the stroke stays", board.operation(0, 6), 3);
        doc.same("blank as before", board.color(2), 0);
        board.lease(1, 0, 255, 5);
        doc.same("a later lease changes nothing", board.operation(0, 7), 3);
        board.undo(0);
        board.undo(0);
        board.redo(0);
        doc.same("nor when it is redone", board.operation(0, 7), 3);
        doc.same("redone in a closed area", board.color(0), 4);
        Board erasing = new Board();
        erasing.draw("0,0-4,0", 1, 0, 4);
        erasing.lease(1, 2, 3, 5);
        doc.same("an erasure", erasing.erase("0,0-4,0", 0, 0, 0), 3);
        doc.same("its cells", erasing.operation(1, 6), 3);
        doc.same("closed cells are not cut", erasing.color(2), 4);
        doc.same("all closed", erasing.erase("2,0-3,0", 0, 0, 1), 0);
        doc.same("all closed, added without cells", erasing.operation(2, 6), 0);
        doc.same("no open cell of it is there", erasing.erase("3,0-4,0", 0, 0, 1), 0);
        doc.same("removing at an open cell", erasing.draw("2,0-6,0", 1, 0, 4), 5);
        doc.same("takes closed cells, too", erasing.erase("6,0", 0, 0, 1), 3);
        doc.same("but not another stroke", erasing.color(3), 4);
    }

    private void erasures() {
        doc.terms("What is left. The operations that are active take effect in the order of the log.",
            "At first, all cells of a stroke or a fill are there.");
        Board board = new Board();
        board.draw("0,0-4,0", 0, 0, 4);
        doc.same("a stroke", board.operation(0, 7), 5);
        board.erase("0,0-1,0", 1, 0, 0);
        board.undo(0);
        board.redo(0);
        doc.same("a stroke that is redone keeps its place", board.operation(0, 7), 3);
        board.undo(1);
        doc.same("an undone erasure has no effect", board.operation(0, 7), 5);
        board.erase("4,0", 2, 0, 1);
        doc.same("removed", board.operation(0, 7), 0);
        board.redo(1);
        doc.same("both", board.operation(0, 7), 0);
        board.undo(2);
        doc.same("cut only", board.operation(0, 7), 3);
        doc.same("a fill", board.fill(3, 0, 1, 255), 253);
        doc.same("all cells of a fill", board.operation(3, 7), 253);
        doc.terms("An erasure on layer L has an effect on the strokes and fills before it in the log whose layer is at most L.");
        for (int drawn = 0; drawn < 3; drawn++) {
            for (int erased = 0; erased < 3; erased++) {
                for (int kind = 0; kind < 3; kind++) {
                    Board layers = new Board();
                    layers.draw("1,1", 0, drawn, 4);
                    layers.fill(0, drawn, 5, 255);
                    String told = "kind " + kind + " on " + erased + " of one on " + drawn;
                    doc.same(told, layers.erase("1,1-2,1", 0, erased, kind), drawn > erased ? 0 : kind == 1 ? 256 : 2);
                    layers.draw("1,1", 0, drawn, 6);
                    doc.same(told + ", not after it", layers.color(17), 6);
                }
            }
        }
        Board twice = new Board();
        twice.draw("0,0-4,0", 0, 0, 4);
        twice.erase("0,0", 0, 0, 0);
        twice.erase("0,0-1,0", 0, 0, 1);
        twice.undo(0);
        doc.same("erasures are not erased", twice.operation(0, 7), 4);
    }

    private void kinds() {
        doc.terms("Its kind is 0, 1 or 2:");
        for (int kind = 0; kind < 3; kind++) {
            Board board = new Board();
            board.erase("1,1", 0, 0, kind);
            doc.same("kind", board.operation(0, 3), kind);
        }
        doc.argument("no other kind", b -> b.erase(0, 0, -1), b -> b.erase(0, 0, 3));
        doc.terms("kind 0 (cutting): its cells are taken away from them;");
        Board cut = new Board();
        cut.draw("0,0-9,0", 0, 0, 4);
        cut.draw("3,0-3,9", 1, 0, 5);
        doc.same("of all users", cut.erase("2,0-4,0", 2, 0, 0), 3);
        doc.same("the first", cut.operation(0, 7), 7);
        doc.same("the second", cut.operation(1, 7), 9);
        doc.terms("kind 1 (removing): all cells are taken away from each of them of which at least one cell, that is there at "
            + "this time, is a cell of the erasure;");
        Board removed = new Board();
        removed.draw("0,0-9,0", 0, 0, 4);
        removed.draw("3,0-3,9", 1, 0, 5);
        doc.same("no cell of it", removed.erase("9,9-15,9", 2, 0, 1), 0);
        removed.erase("9,0", 2, 0, 0);
        doc.same("a cell that is not there any more", removed.erase("9,0-9,5", 2, 0, 1), 0);
        doc.same("one cell of one of them", removed.erase("8,0-8,5", 2, 0, 1), 8);
        doc.same("the first", removed.operation(0, 7), 0);
        doc.same("the second", removed.operation(1, 7), 10);
        for (int i = 0; i < 16; i++) {
            Board everywhere = new Board();
            everywhere.draw("0,0-15,15", 0, 0, 4);
            doc.same("at " + i + "," + i, everywhere.erase(i + "," + i, 1, 0, 1), 16);
        }
        Board hidden = new Board();
        hidden.draw("0,0-9,0", 0, 0, 4);
        hidden.draw("3,0-3,9", 1, 1, 5);
        doc.same("a cell of both, also below", hidden.erase("3,0", 2, 1, 1), 9 + 10);
        Board again = new Board();
        again.draw("0,0-9,0", 0, 0, 4);
        again.erase("0,0", 1, 0, 0);
        again.erase("0,0", 2, 0, 1);
        doc.same("the cell was cut before", again.count(3), 9);
        again.undo(1);
        doc.same("if it is not cut, it is there", again.count(3), 0);
        doc.terms("kind 2 (own): its cells are taken away from those that belong to the user of the erasure.");
        Board own = new Board();
        own.draw("0,0-9,0", 0, 0, 4);
        own.draw("3,0-3,9", 1, 0, 5);
        own.fill(1, 1, 6, 255);
        doc.same("of user 0, below", own.erase("2,0-4,0", 0, 2, 2), 2);
        doc.same("the first", own.operation(0, 7), 7);
        doc.same("the second", own.operation(1, 7), 10);
        doc.same("of user 1, a fill, too", own.erase("3,0-3,15", 1, 2, 2), 16);
        doc.same("the second", own.operation(1, 7), 0);
        doc.same("the fill", own.operation(2, 7), 256 - 19 - 6);
        doc.same("of a user who has none", own.erase("0,0-15,0", 4, 2, 2), 0);
    }

    private void fading() {
        doc.terms("A stroke or fill with the fading time f above 0 that was added at tick b has vanished at a tick t if t is at "
            + "least b + f; it still takes part in all this, but is not shown any more.");
        for (int fade : new int[] {1, 2, 999}) {
            Board board = new Board().passUpTo(7);
            board.drawFading("4,4", 0, 5, fade);
            board.passUpTo(7 + fade - 1);
            doc.same("a tick before, fade " + fade, board.color(68), 5);
            board.pass(1);
            doc.same("at b + f, fade " + fade, board.color(68), 0);
            board.pass(1);
            doc.same("later, fade " + fade, board.color(68), 0);
        }
        Board never = new Board();
        never.drawFading("4,4", 0, 5, 0);
        never.fill(0, 0, 6, 255);
        never.passUpTo(100000);
        doc.same("fading time 0", never.color(68), 5);
        doc.same("a fill", never.color(255), 6);
        Board part = new Board();
        part.drawFading("0,0-9,0", 0, 5, 3);
        part.pass(3);
        doc.same("its cells are left", part.operation(0, 7), 10);
        doc.same("erased", part.erase("3,0", 0, 0, 0), 0);
        doc.same("cut in two", part.operation(0, 8), 2);
        part.erase("9,0", 0, 0, 1);
        doc.same("removed", part.operation(0, 7), 0);
        doc.terms("Its strength at the tick t is 100 if f is 0, 0 if it has vanished, and otherwise 100 * (b + f - t) / f, "
            + "rounded down.");
        doc.same("f is 0", never.operation(0, 10), 100);
        doc.same("vanished", part.operation(0, 10), 0);
        Board weak = new Board().passUpTo(11);
        weak.drawFading("4,4", 0, 5, 7);
        int[] due = {100, 85, 71, 57, 42, 28, 14, 0, 0};
        for (int i = 0; i < due.length; i++) {
            doc.same("at b + " + i, weak.operation(0, 10), due[i]);
            weak.pass(1);
        }
        Board long999 = new Board();
        long999.drawFading("4,4", 0, 5, 999);
        doc.same("at b", long999.operation(0, 10), 100);
        long999.passUpTo(1);
        doc.same("99.9", long999.operation(0, 10), 99);
        long999.passUpTo(988);
        doc.same("1.1", long999.operation(0, 10), 1);
        long999.passUpTo(990);
        doc.same("0.9", long999.operation(0, 10), 0);
        doc.same("0.9 is still shown", long999.color(68), 5);
    }

    private void picture() {
        doc.terms("The picture: a cell shows the color of the stroke or fill that is not vanished, has this cell left, and is on "
            + "top; on top is the one with the highest layer, of those the latest one in the log.");
        for (int first = 0; first < 3; first++) {
            for (int second = 0; second < 3; second++) {
                Board board = new Board();
                board.draw("4,4", 0, first, 5);
                board.draw("4,4", 1, second, 6);
                doc.same("layers " + first + " and " + second, board.color(68), second >= first ? 6 : 5);
                doc.same("on top", board.top(68), second >= first ? 1 : 0);
            }
        }
        Board board = new Board();
        board.draw("4,4", 0, 0, 5);
        board.type("4,4").stroke(1, 2, 6, 2);
        board.pass(1);
        doc.same("not vanished", board.color(68), 6);
        board.pass(1);
        doc.same("vanished", board.color(68), 5);
        board.draw("4,4-5,4", 2, 2, 7);
        board.erase("4,4", 2, 2, 2);
        doc.same("the cell is not left", board.color(68), 5);
        doc.same("another cell is", board.color(69), 7);
        board.draw("4,4", 3, 2, 8);
        board.draw("4,4", 4, 2, 9);
        board.undo(3);
        board.redo(3);
        doc.same("the latest in the log, not the one redone last", board.color(68), 9);
        board.undo(4);
        doc.same("not an undone one", board.color(68), 8);
        doc.terms("A cell without such a stroke or fill is blank and shows the color 0.");
        doc.same("no stroke", board.color(0), 0);
        Board gone = new Board();
        gone.drawFading("0,0", 0, 5, 1);
        gone.draw("1,0", 0, 0, 5);
        gone.draw("2,0", 1, 0, 5);
        gone.pass(1);
        gone.erase("1,0", 0, 0, 0);
        gone.undo(1);
        for (int cell = 0; cell < 3; cell++) {
            doc.same("vanished, erased, undone: color", gone.color(cell), 0);
            doc.same("vanished, erased, undone: top", gone.top(cell), -1);
        }
    }

    private void fills() {
        doc.terms("Fills. When a fill is added at a cell, its cells are all cells that can be reached from this cell by steps "
            + "between neighbors that show, in the picture at this time, the same color as this cell (before closed cells are "
            + "left out; closed cells do not stop it).");
        Board wall = new Board();
        wall.draw("8,0-8,14", 0, 0, 5);
        doc.same("around the end of a wall", wall.fill(0, 0, 1, 0), 256 - 15);
        Board closed = new Board();
        closed.draw("8,0-8,15", 0, 0, 5);
        doc.same("one side", closed.fill(0, 0, 1, 0), 128);
        doc.same("the wall", closed.fill(0, 0, 1, 8), 16);
        doc.same("now both alike", closed.fill(0, 0, 2, 0), 144);
        doc.same("the same color again", closed.fill(0, 0, 2, 136), 144);
        doc.same("the other side", closed.fill(0, 0, 2, 255), 112);
        doc.same("all alike", closed.fill(0, 2, 2, 255), 256);
        Board time = new Board();
        time.drawFading("8,0-8,15", 0, 5, 2);
        time.pass(1);
        doc.same("the picture at this time: a wall", time.fill(0, 0, 1, 0), 128);
        time.pass(1);
        doc.same("the picture at this time: no wall", time.fill(0, 0, 2, 255), 128);
        time.undo(0);
        time.undo(0);
        doc.same("its cells stay when the picture changes", time.redo(0), 1);
        doc.same("its cells", time.operation(1, 7), 128);
        Board leased = new Board();
        leased.lease(1, 8, 248, 5);
        doc.same("closed cells do not stop it", leased.fill(0, 0, 1, 0), 240);
        doc.same("they are left out", leased.color(8), 0);
        doc.same("at a closed cell: the cells of its color are all closed", leased.fill(0, 0, 3, 8), 0);
        leased.undo(0);
        leased.undo(0);
        doc.same("at a closed cell", leased.fill(2, 0, 3, 8), 240);
        doc.same("in the own lease", leased.fill(1, 0, 3, 8), 16);
        Board hidden = new Board();
        hidden.draw("8,0-8,15", 0, 2, 5);
        hidden.draw("0,4-15,4", 0, 0, 6);
        doc.same("what is shown counts, not the layer of the fill", hidden.fill(0, 0, 7, 24), 16);
        doc.same("hidden", hidden.color(8), 5);
    }

    private void constants() {
        doc.terms("The constants: `NONE = -1`: There is nothing to return.");
        doc.same("NONE", SharedBoard.NONE, -1);
        doc.same("no operation", new Board().top(0), SharedBoard.NONE);
        doc.same("no holder", new Board().holder(0), SharedBoard.NONE);
    }
}
