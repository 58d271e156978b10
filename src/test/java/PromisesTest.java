/** A test for each of the document's promises: ordinary inputs, edges and wrong inputs. */
public final class PromisesTest {
    private static final Checks CHECKS = new Checks("PromisesTest");
    private static final int LOW = Integer.MIN_VALUE;
    private static final int HIGH = Integer.MAX_VALUE;

    public static void main(String[] args) {
        promise01newObject();
        promise02clear();
        promise03pass();
        promise04append();
        promise05clearBuffer();
        promise06firstError();
        promise07stroke();
        promise07lines();
        promise07closedCells();
        promise08erase();
        promise08kinds();
        promise08layers();
        promise09fill();
        promise10undo();
        promise11redo();
        promise12lease();
        promise13release();
        promise14holder();
        promise15setMark();
        promise16replay();
        promise17difference();
        promise18rewind();
        promise19color();
        promise20colorLater();
        promise21top();
        promise22count();
        promise22hiddenAndRegions();
        promise23operation();
        promise23pieces();
        promise24ifSwitched();
        promise25user();
        promise26meanStrength();
        promise27digest();
        refusedCallsChangeNothing();
        fullLogIsUsable();
        rowsAreUsedAgain();
        CHECKS.end();
    }

    private static void same(String what, long got, long due) {
        CHECKS.same(what, got, due);
    }

    private static void promise01newObject() {
        Board board = new Board();
        for (int what = 0; what < 10; what++) {
            same("1 count " + what, board.count(what), what == 9 ? 1 : 0);
        }
        for (int cell = 0; cell < 256; cell++) {
            Board other = new Board();
            same("1 color", other.color(cell), 0);
            same("1 top", other.top(cell), SharedBoard.NONE);
            same("1 holder", other.holder(cell), SharedBoard.NONE);
        }
        for (int mark = 0; mark < 6; mark++) {
            int asked = mark;
            CHECKS.state("1 mark", () -> board.difference(asked));
        }
        same("1 NONE", SharedBoard.NONE, -1);
        same("1 buffer", board.clearBuffer(), 0);
        CHECKS.index("1 operation", () -> board.operation(0, 0));
    }

    private static void promise02clear() {
        Board board = new Board();
        same("2 of a new board", board.clear(), 0);
        board.draw("1,1", 0, 0, 3);
        board.draw("2,1", 0, 0, 3);
        board.undo(0);
        board.pass(7);
        board.lease(1, 0, 5, 999);
        board.setMark(0);
        board.setMark(5);
        board.type("4,");
        same("2 operations", board.clear(), 2);
        for (int what = 0; what < 10; what++) {
            same("2 count " + what, board.count(what), what == 9 ? 1 : 0);
        }
        CHECKS.state("2 marks", () -> board.replay(0, 0));
        CHECKS.state("2 marks", () -> board.replay(5, 0));
        CHECKS.state("2 redo", () -> board.redo(0));
        same("2 holder", board.holder(0), -1);
        same("2 color", board.color(17), 0);
        CHECKS.index("2 log", () -> board.operation(0, 0));
        same("2 buffer stays", board.clearBuffer(), 2);
        same("2 again", board.clear(), 0);
        same("2 of a full log", Board.full().clear(), 60);
        // A lease of the time before must not come back while the tick runs up again.
        board.pass(3);
        same("2 leases stay ended", board.count(5), 0);
    }

    private static void promise03pass() {
        Board board = new Board();
        for (int wrong : new int[] {0, -1, 1001, LOW, HIGH}) {
            CHECKS.argument("3 " + wrong, () -> board.pass(wrong));
        }
        same("3 first", board.pass(1), 1);
        for (int i = 1; i < 100; i++) {
            same("3 thousand", board.pass(1000), 1 + 1000 * i);
        }
        CHECKS.state("3 beyond", () -> board.pass(1000));
        same("3 unchanged", board.count(0), 99001);
        same("3 up to the last", board.pass(999), 100000);
        CHECKS.state("3 at the end", () -> board.pass(1));
        CHECKS.argument("3 order", () -> board.pass(1001));
        same("3 clear", board.clear(), 0);
        same("3 from 0 again", board.pass(5), 5);
    }

    private static void promise04append() {
        Board board = new Board();
        for (int wrong : new int[] {32, 127, 0, -48, LOW, HIGH}) {
            CHECKS.argument("4 " + wrong, () -> board.append(wrong));
        }
        for (int i = 1; i <= 40; i++) {
            same("4 length", board.append(i % 2 == 0 ? 33 : 126), i);
        }
        CHECKS.state("4 full", () -> board.append(48));
        CHECKS.argument("4 order", () -> board.append(32));
        same("4 unchanged", board.clearBuffer(), 40);
    }

    private static void promise05clearBuffer() {
        Board board = Board.typed("3,4-");
        same("5 length", board.clearBuffer(), 4);
        same("5 empty", board.clearBuffer(), 0);
        same("5 begins again", board.append('7'), 1);
        same("5 text", board.firstError(), 1);
    }

    private static void promise06firstError() {
        String[] right = {"", "0", "1", "9", "10", "15", "15,", "15,1", "15,15", "0,0-", "0,0-1", "1,1-2,2-3,3-4,4-5,5-6,6",
            "15,15-15,15-15,15-15,15-15,15-15,15", "0,9-9,0"};
        for (String text : right) {
            same("6 no error in " + text, Board.typed(text).firstError(), text.length());
        }
        String[] wrong = {",", "-", "x", "!", "00", "01", "16", "19", "20", "99", "1-", "0-", "100", "150", "0,,", "0,-",
            "0,x", "0,00", "0,16", "0,20", "0,150", "0,0,", "0,0x", "0,0--", "0,0-,", "0,0-1-", "0,0-16",
            "1,1-2,2-3,3-4,4-5,5-6,6-", "1,1-2,2-3,3-4,4-5,5-6,66", "0.", "0/", "0:", "1:", "1/"};
        for (String text : wrong) {
            same("6 error in " + text, Board.typed(text).firstError(), text.length() - 1);
            same("6 first error in " + text, Board.typed(text + "0,0").firstError(), text.length() - 1);
        }
        Board board = Board.typed("1,16");
        same("6 asked", board.firstError(), 3);
        same("6 asked again", board.firstError(), 3);
        same("6 changes nothing", board.clearBuffer(), 4);
        same("6 long text", Board.typed("0123456789012345678901234567890123456789").firstError(), 1);
    }

    private static void promise07stroke() {
        Board board = Board.typed("3,2");
        CHECKS.index("7 user -1", () -> board.stroke(-1, 0, 1, 0));
        CHECKS.index("7 user 5", () -> board.stroke(5, 0, 1, 0));
        CHECKS.index("7 layer -1", () -> board.stroke(0, -1, 1, 0));
        CHECKS.index("7 layer 3", () -> board.stroke(0, 3, 1, 0));
        CHECKS.index("7 order", () -> board.stroke(0, 3, 0, -1));
        CHECKS.argument("7 color 0", () -> board.stroke(0, 0, 0, 0));
        CHECKS.argument("7 color 10", () -> board.stroke(0, 0, 10, 0));
        CHECKS.argument("7 fade -1", () -> board.stroke(0, 0, 1, -1));
        CHECKS.argument("7 fade 1000", () -> board.stroke(0, 0, 1, 1000));
        CHECKS.index("7 far", () -> board.stroke(HIGH, LOW, HIGH, LOW));
        same("7 one point", board.stroke(4, 2, 9, 999), 1);
        same("7 cell", board.color(35), 9);
        same("7 number", board.top(35), 0);
        same("7 buffer is empty", board.clearBuffer(), 0);
        for (String text : new String[] {"", "1", "1,", "1,1-", "1,1-2", "1,1-2,", "16,1", "1,1x"}) {
            Board other = Board.typed(text);
            CHECKS.state("7 text " + text, () -> other.stroke(0, 0, 1, 0));
            CHECKS.argument("7 color before text", () -> other.stroke(0, 0, 0, 0));
            same("7 buffer stays", other.clearBuffer(), text.length());
            same("7 nothing added", other.count(1), 0);
        }
        Board full = Board.full().type("1,1");
        CHECKS.state("7 full", () -> full.stroke(0, 0, 1, 0));
        CHECKS.argument("7 full, order", () -> full.stroke(0, 0, 1, 1000));
        same("7 full, buffer stays", full.clearBuffer(), 3);
    }

    /** These cells, each named once, show the color, and all others are blank. */
    private static void showsOnly(String what, Board board, int color, int... cells) {
        for (int cell : cells) {
            same(what + " cell " + cell, board.color(cell), color);
        }
        same(what + " cells", board.count(3), cells.length);
    }

    private static void promise07lines() {
        String[] paths = {"0,0-2,1", "2,1-0,0", "0,0-1,2", "1,2-0,0", "5,5-5,5", "0,0-3,0-3,2", "7,3-4,3", "1,1-3,3-1,1",
            "2,0-0,1", "0,0-4,1", "4,1-0,0", "0,0-7,2", "15,15-15,13", "6,0-1,4"};
        int[][] cells = {{0, 17, 18}, {18, 1, 0}, {0, 17, 33}, {33, 16, 0}, {85}, {0, 1, 2, 3, 19, 35}, {55, 54, 53, 52},
            {17, 34, 51}, {2, 17, 16}, {0, 1, 18, 19, 20}, {20, 19, 2, 1, 0}, {0, 1, 18, 19, 20, 21, 38, 39},
            {255, 239, 223}, {6, 21, 36, 35, 50, 65}};
        for (int i = 0; i < paths.length; i++) {
            Board board = new Board();
            same("7 size of " + paths[i], board.draw(paths[i], 1, 1, 6), cells[i].length);
            showsOnly("7 line " + paths[i], board, 6, cells[i]);
        }
        Board six = new Board();
        same("7 six points", six.draw("0,0-15,0-15,15-0,15-0,1-14,1", 0, 0, 1), 16 + 15 + 15 + 14 + 14);
    }

    private static void promise07closedCells() {
        Board board = new Board();
        board.lease(0, 2, 3, 5);
        same("7 closed cells", board.draw("0,0-5,0", 1, 0, 4), 4);
        showsOnly("7 around the lease", board, 4, 0, 1, 4, 5);
        board.release(0);
        showsOnly("7 after the lease", board, 4, 0, 1, 4, 5);
        same("7 number of cells", board.operation(0, 6), 4);
        board.lease(0, 0, 255, 5);
        same("7 owner draws", board.draw("2,0", 0, 0, 4), 1);
        same("7 nothing left of it", board.draw("9,9", 1, 0, 4), 0);
        same("7 but it is added", board.count(1), 3);
        board.pass(5);
        same("7 the lease has ended", board.draw("9,9", 1, 0, 4), 1);
    }

    private static void promise08erase() {
        Board board = Board.typed("0,0");
        CHECKS.index("8 user", () -> board.erase(5, 0, 0));
        CHECKS.index("8 user", () -> board.erase(-1, 0, 3));
        CHECKS.index("8 layer", () -> board.erase(0, 3, 0));
        CHECKS.index("8 layer", () -> board.erase(0, -1, 0));
        CHECKS.argument("8 kind", () -> board.erase(0, 0, 3));
        CHECKS.argument("8 kind", () -> board.erase(0, 0, -1));
        same("8 nothing to erase", board.erase(0, 0, 0), 0);
        same("8 added", board.count(1), 1);
        same("8 buffer is empty", board.clearBuffer(), 0);
        CHECKS.state("8 empty text", () -> board.erase(0, 0, 0));
        CHECKS.argument("8 kind before text", () -> board.erase(0, 0, 3));
        Board full = Board.full().type("1,1");
        CHECKS.state("8 full", () -> full.erase(0, 0, 1));
        Board covered = new Board();
        covered.draw("0,0-3,0", 1, 0, 7);
        covered.draw("0,0-1,0", 0, 1, 7);
        covered.draw("2,0", 0, 1, 8);
        // Below the cells 0 and 1 the same color comes to light, below the cell 2 another one.
        same("8 other colors only", covered.erase("0,0-2,0", 0, 1, 2), 1);
        same("8 undone", covered.undo(0), 3);
        same("8 covered", covered.erase("0,0", 1, 0, 0), 0);
        same("8 but cut", covered.operation(0, 7), 3);
        Board late = new Board();
        late.drawFading("4,4", 0, 5, 3);
        late.pass(3);
        same("8 vanished strokes", late.erase("4,4", 0, 0, 0), 0);
        same("8 take part", late.operation(0, 7), 0);
    }

    private static void promise08kinds() {
        int[] due = {2, 6, 2};
        for (int kind = 0; kind < 3; kind++) {
            Board board = new Board();
            board.draw("0,0-5,0", 0, 0, 3);
            same("8 kind " + kind, board.erase("1,0-2,0", 0, 0, kind), due[kind]);
            same("8 left " + kind, board.operation(0, 7), 6 - due[kind]);
        }
        Board other = new Board();
        other.draw("0,0-5,0", 0, 0, 3);
        same("8 own of another", other.erase("0,0-5,0", 1, 2, 2), 0);
        same("8 cut by another", other.erase("0,0", 1, 2, 0), 1);
        same("8 a cell that is gone", other.erase("0,0", 1, 2, 1), 0);
        same("8 one that is there", other.erase("0,0-1,0", 1, 2, 1), 5);
        Board later = new Board();
        later.erase("0,0-5,0", 0, 2, 1);
        later.draw("0,0-5,0", 0, 0, 3);
        same("8 only before it", later.count(3), 6);
        Board leased = new Board();
        leased.draw("0,0-5,0", 0, 0, 3);
        leased.lease(0, 0, 1, 9);
        same("8 closed cells", leased.erase("0,0-3,0", 1, 0, 0), 2);
        same("8 its cells", leased.operation(1, 6), 2);
        same("8 closed to removing", leased.erase("0,0-1,0", 1, 0, 1), 0);
        Board many = new Board();
        many.draw("0,0-5,0", 0, 0, 3);
        many.draw("0,0-0,5", 1, 0, 4);
        many.draw("9,9", 1, 0, 4);
        same("8 removes each", many.erase("0,0", 3, 0, 1), 11);
        same("8 undone erasure", many.undo(3), 3);
        same("8 all is there", many.count(3), 12);
    }

    private static void promise08layers() {
        for (int layer = 0; layer < 3; layer++) {
            Board board = new Board();
            for (int drawn = 0; drawn < 3; drawn++) {
                board.draw(drawn + "," + drawn, 0, drawn, 5);
            }
            same("8 layers up to " + layer, board.erase("0,0-2,2", 0, layer, 0), layer + 1);
        }
    }

    private static void promise09fill() {
        Board board = new Board();
        CHECKS.index("9 user", () -> board.fill(-1, 0, 1, 0));
        CHECKS.index("9 user", () -> board.fill(5, 0, 0, 0));
        CHECKS.index("9 layer", () -> board.fill(0, -1, 1, 0));
        CHECKS.index("9 cell", () -> board.fill(0, 0, 1, 256));
        CHECKS.index("9 cell", () -> board.fill(0, 0, 0, -1));
        CHECKS.argument("9 color", () -> board.fill(0, 0, 0, 0));
        CHECKS.argument("9 color", () -> board.fill(0, 0, 10, 0));
        board.type("1,1-");
        same("9 whole board", board.fill(0, 0, 2, 77), 256);
        same("9 buffer stays", board.clearBuffer(), 4);
        same("9 no fading", board.operation(0, 10), 100);
        same("9 sort", board.operation(0, 0), 1);
        Board walls = new Board();
        walls.draw("0,3-3,0", 0, 0, 1);
        same("9 a diagonal stops it", walls.fill(1, 0, 4, 0), 6);
        same("9 the same color by neighbors", walls.fill(1, 0, 5, 3), 1);
        same("9 outside", walls.fill(1, 0, 6, 255), 256 - 10);
        Board halves = new Board();
        halves.draw("0,8-15,8", 0, 0, 1);
        same("9 columns do not run on below", halves.fill(0, 0, 2, 255), 7 * 16);
        same("9 nor above", halves.fill(0, 0, 3, 0), 8 * 16);
        Board low = new Board();
        low.draw("0,0-15,0", 0, 2, 3);
        same("9 below a layer", low.fill(0, 0, 9, 5), 16);
        same("9 is covered", low.color(5), 3);
        same("9 hidden", low.count(8), 1);
        Board leased = new Board();
        leased.lease(2, 5, 245, 9);
        same("9 closed cells do not stop it", leased.fill(0, 0, 1, 0), 256 - 16);
        same("9 at a closed cell", leased.fill(1, 0, 2, 5), 0);
        same("9 by the holder", leased.fill(2, 0, 3, 21), 16);
        Board faded = new Board();
        faded.drawFading("0,1-15,1", 0, 4, 5);
        same("9 a stroke stops it", faded.fill(0, 0, 1, 0), 16);
        faded.pass(5);
        same("9 not when vanished", faded.fill(0, 0, 2, 255), 256 - 16);
        Board full = Board.full();
        CHECKS.state("9 full", () -> full.fill(0, 0, 1, 0));
        CHECKS.argument("9 full, order", () -> full.fill(0, 0, 10, 0));
        CHECKS.index("9 full, order", () -> full.fill(0, 0, 10, 256));
    }

    private static void promise10undo() {
        Board board = new Board();
        CHECKS.index("10 user", () -> board.undo(5));
        CHECKS.index("10 user", () -> board.undo(-1));
        CHECKS.state("10 nothing", () -> board.undo(0));
        board.draw("0,0", 0, 0, 1);
        board.draw("1,0", 1, 0, 1);
        board.draw("2,0", 0, 0, 1);
        board.erase("0,0-2,0", 1, 0, 1);
        same("10 all erased", board.count(3), 0);
        same("10 latest of the user", board.undo(0), 2);
        same("10 an erasure", board.undo(1), 3);
        same("10 what it gives back", board.count(3), 2);
        same("10 next", board.undo(0), 0);
        CHECKS.state("10 no more", () -> board.undo(0));
        same("10 active", board.operation(0, 5), 0);
        same("10 left", board.operation(0, 7), 0);
        same("10 cells stay", board.operation(0, 6), 1);
        same("10 log stays", board.count(1), 4);
        same("10 shown", board.color(1), 1);
    }

    private static void promise11redo() {
        Board board = new Board();
        CHECKS.index("11 user", () -> board.redo(5));
        CHECKS.index("11 user", () -> board.redo(-1));
        CHECKS.state("11 nothing", () -> board.redo(0));
        for (int i = 0; i < 3; i++) {
            board.draw(i + ",0", 0, 0, 1);
        }
        board.draw("9,0", 1, 0, 1);
        CHECKS.state("11 nothing undone", () -> board.redo(0));
        board.undo(0);
        board.undo(0);
        CHECKS.state("11 of another user", () -> board.redo(1));
        same("11 the last one undone", board.redo(0), 1);
        same("11 shown", board.color(1), 1);
        same("11 undone again", board.undo(0), 1);
        same("11 undone deeper", board.undo(0), 0);
        same("11 first", board.redo(0), 0);
        same("11 second", board.redo(0), 1);
        board.undo(1);
        board.draw("0,5", 0, 0, 1);
        CHECKS.state("11 forgotten by adding", () -> board.redo(0));
        same("11 stays in the log", board.operation(2, 5), 0);
        same("11 another user's stays", board.redo(1), 3);
        board.undo(1);
        board.fill(1, 0, 2, 255);
        CHECKS.state("11 forgotten by a fill", () -> board.redo(1));
        board.undo(0);
        board.erase("8,8", 0, 0, 0);
        CHECKS.state("11 forgotten by an erasure", () -> board.redo(0));
        same("11 undo passes over them", board.undo(0), 6);
        same("11 undo passes over them", board.undo(0), 1);
        same("11 redo", board.redo(0), 1);
        Board first = new Board();
        first.draw("0,0", 0, 0, 1);
        first.undo(0);
        first.draw("1,0", 0, 0, 1);
        CHECKS.state("11 the first one is forgotten, too", () -> first.redo(0));
        same("11 of two", first.user(0, 2), 0);
    }

    private static void promise12lease() {
        Board board = new Board();
        CHECKS.index("12 user", () -> board.lease(5, 0, 0, 1));
        CHECKS.index("12 user", () -> board.lease(-1, 0, 0, 0));
        CHECKS.index("12 first", () -> board.lease(0, -1, 0, 1));
        CHECKS.index("12 first", () -> board.lease(0, 256, 0, 1));
        CHECKS.index("12 last", () -> board.lease(0, 0, -1, 1000));
        CHECKS.index("12 last", () -> board.lease(0, 0, 256, 1));
        CHECKS.argument("12 ticks", () -> board.lease(0, 0, 0, 0));
        CHECKS.argument("12 ticks", () -> board.lease(0, 0, 0, 1000));
        CHECKS.argument("12 ticks", () -> board.lease(0, 0, 0, HIGH));
        // From the lower left to the upper right corner: columns 1 to 3 of the rows 2 to 4.
        same("12 corners", board.lease(0, 65, 35, 10), 1);
        same("12 cells", board.count(6), 9);
        for (int cell = 0; cell < 256; cell++) {
            int x = cell % 16;
            int y = cell / 16;
            same("12 cell " + cell, board.holder(cell), x >= 1 && x <= 3 && y >= 2 && y <= 4 ? 0 : -1);
        }
        same("12 closed", board.lease(1, 67, 255, 5), -1);
        same("12 nothing leased", board.count(5), 1);
        same("12 beside it", board.lease(1, 68, 255, 5), 2);
        same("12 over its own", board.lease(0, 35, 35, 20), 3);
        same("12 cells once", board.count(6), 9 + 12 * 12);
        board.pass(5);
        same("12 has ended", board.count(5), 2);
        board.pass(5);
        same("12 longer one", board.count(6), 1);
        same("12 open again", board.lease(2, 65, 65, 1), 2);
        same("12 still closed", board.lease(2, 65, 35, 1), -1);
        Board many = new Board();
        for (int i = 0; i < 6; i++) {
            same("12 six", many.lease(i % 5, i, i, i == 3 ? 1 : 999), i + 1);
        }
        same("12 a seventh", many.lease(0, 200, 200, 1), -1);
        CHECKS.argument("12 exceptions first", () -> many.lease(0, 200, 200, 0));
        many.pass(1);
        same("12 room again", many.lease(0, 255, 255, 1), 6);
        same("12 corner", many.holder(255), 0);
        same("12 whole board", new Board().lease(4, 15, 240, 999), 1);
    }

    private static void promise13release() {
        Board board = new Board();
        CHECKS.index("13 user", () -> board.release(5));
        CHECKS.index("13 user", () -> board.release(-1));
        same("13 none", board.release(0), 0);
        board.lease(0, 0, 255, 9);
        same("13 at tick 0", board.release(0), 1);
        same("13 ended", board.count(5), 0);
        board.lease(0, 0, 0, 1);
        board.lease(0, 1, 2, 9);
        board.lease(1, 3, 3, 9);
        board.lease(0, 2, 2, 9);
        board.pass(1);
        same("13 those in force", board.release(0), 2);
        same("13 the others stay", board.count(5), 1);
        same("13 open", board.holder(2), -1);
        same("13 again", board.release(0), 0);
        same("13 the other user", board.release(1), 1);
        same("13 all ended", board.count(6), 0);
    }

    private static void promise14holder() {
        Board board = new Board();
        CHECKS.index("14 cell", () -> board.holder(-1));
        CHECKS.index("14 cell", () -> board.holder(256));
        board.lease(3, 0, 0, 4);
        board.lease(1, 255, 255, 2);
        same("14 first cell", board.holder(0), 3);
        same("14 last cell", board.holder(255), 1);
        same("14 no cell", board.holder(1), -1);
        board.pass(1);
        same("14 in force", board.holder(255), 1);
        board.pass(1);
        same("14 at its end", board.holder(255), -1);
        same("14 longer", board.holder(0), 3);
    }

    private static void promise15setMark() {
        Board board = new Board();
        CHECKS.index("15 mark", () -> board.setMark(-1));
        CHECKS.index("15 mark", () -> board.setMark(6));
        same("15 empty log", board.setMark(0), 0);
        board.draw("0,0", 0, 0, 1);
        board.undo(0);
        same("15 undone ones count", board.setMark(5), 1);
        same("15 two set", board.count(7), 2);
        board.draw("0,0", 0, 0, 1);
        same("15 in place", board.setMark(0), 2);
        same("15 still two", board.count(7), 2);
        same("15 the new picture", board.replay(0, 0), 1);
        same("15 the other one", board.replay(5, 0), 0);
    }

    private static void promise16replay() {
        Board board = new Board();
        CHECKS.index("16 mark", () -> board.replay(6, 0));
        CHECKS.index("16 mark", () -> board.replay(-1, 0));
        CHECKS.index("16 cell", () -> board.replay(0, 256));
        CHECKS.index("16 cell", () -> board.replay(0, -1));
        CHECKS.state("16 not set", () -> board.replay(0, 0));
        board.drawFading("0,0-1,0", 0, 3, 4);
        board.draw("1,0-2,0", 1, 1, 5);
        board.setMark(2);
        board.pass(4);
        board.undo(1);
        board.erase("0,0", 0, 2, 1);
        board.fill(2, 2, 9, 255);
        same("16 present", board.color(0), 9);
        same("16 faded since", board.replay(2, 0), 3);
        same("16 undone since", board.replay(2, 1), 5);
        same("16 blank", board.replay(2, 255), 0);
        CHECKS.state("16 another mark", () -> board.replay(1, 0));
    }

    private static void promise17difference() {
        Board board = new Board();
        CHECKS.index("17 mark", () -> board.difference(6));
        CHECKS.index("17 mark", () -> board.difference(-1));
        CHECKS.state("17 not set", () -> board.difference(3));
        board.setMark(3);
        same("17 none", board.difference(3), 0);
        board.drawFading("0,0-4,0", 0, 3, 4);
        same("17 drawn", board.difference(3), 5);
        board.setMark(4);
        board.draw("3,0-6,0", 0, 0, 3);
        same("17 the same color does not count", board.difference(4), 2);
        board.pass(4);
        same("17 faded", board.difference(4), 5);
        same("17 from the blank board", board.difference(3), 4);
    }

    private static void promise18rewind() {
        Board board = new Board();
        CHECKS.index("18 mark", () -> board.rewind(6));
        CHECKS.index("18 mark", () -> board.rewind(-1));
        CHECKS.state("18 not set", () -> board.rewind(1));
        board.draw("0,0", 0, 0, 1);
        board.setMark(0);
        board.draw("1,0", 1, 0, 2);
        board.draw("2,0", 0, 0, 3);
        board.undo(0);
        board.setMark(1);
        board.setMark(4);
        board.draw("3,0", 2, 0, 4);
        board.setMark(2);
        board.redo(0);
        board.undo(1);
        board.setMark(3);
        board.lease(4, 200, 201, 50);
        board.pass(9);
        board.type("4,");
        same("18 removed", board.rewind(1), 1);
        same("18 operations", board.count(1), 3);
        same("18 active again", board.operation(1, 5), 1);
        same("18 inactive again", board.operation(2, 5), 0);
        CHECKS.state("18 redo is forgotten", () -> board.redo(0));
        CHECKS.state("18 redo is forgotten", () -> board.redo(1));
        same("18 redoable", board.user(0, 2) + board.user(1, 2), 0);
        same("18 tick", board.count(0), 9);
        same("18 leases", board.count(5), 1);
        same("18 buffer", board.clearBuffer(), 2);
        same("18 marks", board.count(7), 3);
        same("18 picture", board.difference(1), 0);
        same("18 equal marks stay", board.difference(4), 0);
        CHECKS.state("18 later marks", () -> board.replay(2, 0));
        CHECKS.state("18 later marks", () -> board.rewind(3));
        CHECKS.index("18 removed for good", () -> board.operation(3, 0));
        same("18 again", board.rewind(1), 0);
        board.draw("9,9", 3, 0, 8);
        same("18 new number", board.top(153), 3);
        same("18 further back", board.rewind(0), 3);
        same("18 one mark", board.count(7), 1);
        Board undone = new Board();
        undone.draw("0,0", 0, 0, 1);
        undone.setMark(0);
        undone.undo(0);
        same("18 none removed", undone.rewind(0), 0);
        same("18 active as it was", undone.color(0), 1);
        undone.undo(0);
        undone.setMark(1);
        undone.redo(0);
        undone.rewind(1);
        CHECKS.state("18 undone at the mark", () -> undone.redo(0));
        Board faded = new Board();
        faded.drawFading("0,0", 0, 1, 3);
        faded.setMark(0);
        faded.pass(3);
        faded.rewind(0);
        same("18 the tick stays", faded.difference(0), 1);
        Board first = new Board();
        first.setMark(5);
        first.draw("0,0", 0, 0, 1);
        first.setMark(0);
        same("18 to the blank board", first.rewind(5), 1);
        CHECKS.state("18 the first mark", () -> first.difference(0));
        same("18 blank", first.color(0), 0);
    }

    private static void promise19color() {
        Board board = new Board();
        CHECKS.index("19 cell", () -> board.color(-1));
        CHECKS.index("19 cell", () -> board.color(256));
        board.draw("0,0-15,15", 0, 1, 3);
        board.draw("0,0-3,3", 1, 0, 4);
        same("19 higher layer", board.color(17), 3);
        board.draw("15,15", 2, 1, 5);
        same("19 later one", board.color(255), 5);
        board.draw("14,14-15,15", 2, 2, 6);
        same("19 top layer", board.color(238), 6);
        board.drawFading("1,0", 2, 7, 2);
        board.pass(1);
        same("19 fading", board.color(1), 7);
        board.pass(1);
        same("19 vanished", board.color(1), 0);
        same("19 blank", board.color(2), 0);
    }

    private static void promise20colorLater() {
        Board board = new Board();
        CHECKS.index("20 cell", () -> board.colorLater(-1, 0));
        CHECKS.index("20 cell", () -> board.colorLater(256, -1));
        CHECKS.argument("20 ticks", () -> board.colorLater(0, -1));
        CHECKS.argument("20 ticks", () -> board.colorLater(0, 1001));
        board.draw("0,0", 0, 0, 2);
        board.drawFading("0,0-1,0", 0, 3, 999);
        board.type("0,0").stroke(0, 2, 4, 1);
        same("20 now", board.colorLater(0, 0), 4);
        same("20 one", board.colorLater(0, 1), 3);
        same("20 998", board.colorLater(0, 998), 3);
        same("20 999", board.colorLater(0, 999), 2);
        same("20 1000", board.colorLater(1, 1000), 0);
        same("20 nothing changes", board.count(0), 0);
        same("20 nothing changes", board.color(0), 4);
        board.pass(998);
        same("20 from now", board.colorLater(1, 0), 3);
        same("20 from now", board.colorLater(1, 1), 0);
        for (int i = 0; i < 99; i++) {
            board.pass(1000);
        }
        board.pass(2);
        same("20 near the last tick", board.colorLater(0, 1000), 2);
    }

    private static void promise21top() {
        Board board = new Board();
        CHECKS.index("21 cell", () -> board.top(-1));
        CHECKS.index("21 cell", () -> board.top(256));
        board.draw("0,0-2,0", 0, 1, 3);
        board.draw("0,0", 0, 0, 3);
        board.draw("1,0", 0, 1, 3);
        same("21 higher layer", board.top(0), 0);
        same("21 later one", board.top(1), 2);
        same("21 blank", board.top(3), -1);
        board.erase("0,0-1,0", 0, 1, 0);
        same("21 erased", board.top(0), -1);
        same("21 not an erasure", board.top(2), 0);
        board.undo(0);
        same("21 undone", board.top(1), 2);
        board.undo(0);
        same("21 below", board.top(1), 0);
        board.drawFading("9,0", 1, 3, 1);
        same("21 fading", board.top(9), 4);
        board.pass(1);
        same("21 vanished", board.top(9), -1);
    }

    private static void promise22count() {
        Board board = new Board();
        for (int wrong : new int[] {-1, 10, LOW, HIGH}) {
            CHECKS.argument("22 " + wrong, () -> board.count(wrong));
        }
        board.pass(12);
        board.draw("0,0-3,0", 0, 0, 9);
        board.draw("0,1-3,1", 1, 0, 1);
        board.drawFading("0,2-1,2", 1, 9, 5);
        board.erase("0,0", 2, 0, 0);
        board.draw("5,5", 3, 0, 4);
        board.undo(3);
        board.lease(0, 0, 17, 9);
        board.lease(0, 17, 34, 3);
        board.setMark(1);
        same("22 tick", board.count(0), 12);
        same("22 operations", board.count(1), 5);
        same("22 active", board.count(2), 4);
        same("22 not blank", board.count(3), 9);
        same("22 colors", board.count(4), 2);
        same("22 leases", board.count(5), 2);
        same("22 leased cells", board.count(6), 7);
        same("22 marks", board.count(7), 1);
        same("22 hidden", board.count(8), 0);
        board.pass(5);
        same("22 vanished", board.count(3), 7);
        same("22 leases end", board.count(6), 4);
        Board colors = new Board();
        for (int color = 1; color <= 9; color++) {
            colors.draw(color + ",3", 0, 0, color);
            same("22 colors", colors.count(4), color);
        }
    }

    private static void promise22hiddenAndRegions() {
        Board board = new Board();
        board.draw("0,0-3,0", 0, 0, 9);
        board.drawFading("0,0", 0, 9, 5);
        board.draw("0,0-3,0", 0, 1, 8);
        same("22 both hidden", board.count(8), 2);
        board.pass(5);
        same("22 vanished ones do not count", board.count(8), 1);
        board.erase("0,0-3,0", 0, 0, 0);
        same("22 nor those without cells", board.count(8), 0);
        board.undo(0);
        board.undo(0);
        same("22 shown again", board.count(8), 0);
        same("22 two regions", board.count(9), 2);
        Board crossed = new Board();
        crossed.draw("0,0-15,15", 0, 0, 3);
        same("22 diagonal cells are no neighbors", crossed.count(9), 18);
        crossed.draw("15,0-0,15", 0, 0, 3);
        // 28 lone cells, the square in the middle, and four blank triangles.
        same("22 a cross", crossed.count(9), 28 + 1 + 4);
        Board wrapped = new Board();
        wrapped.draw("15,0", 0, 0, 3);
        wrapped.draw("0,1", 0, 0, 3);
        same("22 rows do not run on", wrapped.count(9), 3);
    }

    private static void promise23operation() {
        Board board = new Board();
        board.pass(6);
        board.lease(0, 0, 1, 9);
        board.type("0,0-5,0").stroke(3, 2, 7, 8);
        board.fill(1, 1, 4, 0);
        board.erase("3,0-4,0", 2, 2, 0);
        for (int what : new int[] {-1, 11, LOW, HIGH}) {
            CHECKS.argument("23 what", () -> board.operation(0, what));
            CHECKS.index("23 order", () -> board.operation(3, what));
        }
        CHECKS.index("23 number", () -> board.operation(-1, 0));
        CHECKS.index("23 number", () -> board.operation(3, 0));
        int[][] due = {{0, 3, 2, 7, 6, 1, 4, 2, 2, 2, 100}, {1, 1, 1, 4, 6, 1, 250, 250, 1, 250, 100},
            {2, 2, 2, 0, 6, 1, 2, 0, 0, 0, 0}};
        for (int number = 0; number < 3; number++) {
            for (int what = 0; what < 11; what++) {
                same("23 " + number + " " + what, board.operation(number, what), due[number][what]);
            }
        }
        board.erase("9,9", 2, 0, 2);
        same("23 kind", board.operation(3, 3), 2);
        board.pass(3);
        same("23 strength rounded down", board.operation(0, 10), 62);
        same("23 born", board.operation(0, 4), 6);
        board.undo(3);
        int[] undone = {0, 3, 2, 7, 6, 0, 4, 0, 0, 0, 62};
        for (int what = 0; what < 11; what++) {
            same("23 undone " + what, board.operation(0, what), undone[what]);
        }
        board.redo(3);
        board.pass(4);
        same("23 last tick", board.operation(0, 10), 12);
        same("23 last tick", board.operation(0, 9), 2);
        board.pass(1);
        same("23 vanished", board.operation(0, 10), 0);
        same("23 vanished, on top", board.operation(0, 9), 0);
        same("23 vanished, left", board.operation(0, 7), 2);
        same("23 vanished, pieces", board.operation(0, 8), 2);
        Board slow = new Board();
        slow.drawFading("0,0", 0, 1, 999);
        slow.pass(998);
        same("23 weak but there", slow.operation(0, 10), 0);
        same("23 weak but there", slow.color(0), 1);
    }

    private static void promise23pieces() {
        Board board = new Board();
        board.draw("0,0-15,15", 0, 0, 3);
        same("23 near cells", board.operation(0, 8), 1);
        board.erase("4,4", 0, 0, 0);
        same("23 cut", board.operation(0, 8), 2);
        board.erase("0,0", 0, 0, 0);
        same("23 at an end", board.operation(0, 8), 2);
        board.draw("1,1-9,1", 0, 2, 5);
        same("23 covered cells are left", board.operation(0, 8), 2);
        board.erase("5,5-15,15", 0, 0, 0);
        same("23 one piece", board.operation(0, 8), 1);
        board.erase("2,2", 0, 0, 1);
        same("23 none", board.operation(0, 8), 0);
        Board edges = new Board();
        edges.draw("14,2-15,2-15,3-0,3-0,4", 0, 0, 1);
        edges.erase("1,3-14,3", 0, 0, 0);
        same("23 rows do not run on", edges.operation(0, 8), 2);
        Board other = new Board();
        other.draw("4,0-0,4", 0, 0, 1);
        same("23 the other diagonal", other.operation(0, 8), 1);
        String[] bent = {"0,2-2,4-4,2", "4,1-2,4-0,2", "0,0-4,4-0,8", "8,0-4,4-8,8", "0,15-7,8-14,15"};
        for (String path : bent) {
            Board board2 = new Board();
            board2.draw(path, 0, 0, 1);
            same("23 one piece " + path, board2.operation(0, 8), 1);
        }
    }

    private static void promise24ifSwitched() {
        Board board = new Board();
        CHECKS.index("24 number", () -> board.ifSwitched(0));
        board.draw("0,0-5,0", 0, 0, 3);
        board.draw("0,0-1,0", 1, 0, 3);
        board.erase("5,0", 2, 0, 1);
        CHECKS.index("24 number", () -> board.ifSwitched(3));
        CHECKS.index("24 number", () -> board.ifSwitched(-1));
        same("24 an erased stroke", board.ifSwitched(0), 0);
        same("24 a stroke", board.ifSwitched(1), 2);
        same("24 an erasure", board.ifSwitched(2), 4);
        long before = board.digest();
        board.ifSwitched(2);
        same("24 nothing is changed", board.digest(), before);
        board.undo(2);
        same("24 active again", board.ifSwitched(2), 4);
        board.undo(0);
        same("24 below the same color", board.ifSwitched(0), 4);
        board.draw("9,9", 0, 0, 1);
        same("24 also if it can't be redone", board.ifSwitched(0), 4);
        board.drawFading("7,7", 3, 2, 2);
        same("24 fading", board.ifSwitched(4), 1);
        board.pass(2);
        same("24 vanished", board.ifSwitched(4), 0);
        board.undo(3);
        same("24 vanished and undone", board.ifSwitched(4), 0);
    }

    private static void promise25user() {
        Board board = new Board();
        CHECKS.index("25 user", () -> board.user(5, 0));
        CHECKS.index("25 user", () -> board.user(-1, 5));
        CHECKS.argument("25 what", () -> board.user(0, -1));
        CHECKS.argument("25 what", () -> board.user(4, 5));
        board.draw("0,0-5,0", 0, 0, 3);
        board.draw("0,0-1,0", 1, 0, 3);
        board.draw("9,0", 0, 0, 3);
        board.draw("8,0", 0, 0, 3);
        board.erase("5,0", 2, 0, 0);
        board.undo(0);
        board.lease(4, 255, 255, 4);
        board.lease(4, 255, 255, 5);
        board.lease(1, 254, 254, 5);
        int[][] due = {{3, 2, 1, 4, 0}, {1, 1, 0, 2, 1}, {1, 1, 0, 0, 0}, {0, 0, 0, 0, 0}, {0, 0, 0, 0, 2}};
        for (int user = 0; user < 5; user++) {
            for (int what = 0; what < 5; what++) {
                same("25 user " + user + " " + what, board.user(user, what), due[user][what]);
            }
        }
        board.undo(0);
        board.undo(0);
        same("25 all can be redone", board.user(0, 2), 3);
        board.redo(0);
        same("25 both can be redone", board.user(0, 2), 2);
        board.redo(0);
        same("25 one can be redone", board.user(0, 2), 1);
        board.draw("8,8", 0, 0, 3);
        same("25 none can be redone", board.user(0, 2), 0);
        board.pass(4);
        same("25 leases end", board.user(4, 4), 1);
    }

    private static void promise26meanStrength() {
        Board board = new Board();
        CHECKS.same("26 blank", board.meanStrength(), 0.0);
        board.draw("0,0", 0, 0, 1);
        CHECKS.same("26 full", board.meanStrength(), 100.0);
        board.drawFading("1,0-2,0", 0, 1, 3);
        board.pass(1);
        CHECKS.same("26 mean", board.meanStrength(), (100.0 + 66.0 + 66.0) / 3.0);
        board.pass(1);
        CHECKS.same("26 later", board.meanStrength(), 166.0 / 3.0);
        board.pass(1);
        CHECKS.same("26 vanished", board.meanStrength(), 100.0);
        board.drawFading("0,0", 0, 1, 4);
        board.pass(1);
        CHECKS.same("26 only those on top", board.meanStrength(), 75.0);
    }

    private static Board ofAllKinds() {
        Board board = new Board();
        board.setMark(3);
        board.draw("0,0-5,5", 0, 0, 3);
        board.setMark(0);
        board.drawFading("5,0-0,5", 1, 4, 9);
        board.pass(2);
        board.setMark(1);
        board.erase("3,3", 0, 0, 0);
        board.fill(2, 1, 6, 15);
        board.lease(3, 0, 40, 7);
        board.undo(1);
        return board.type("1,~!");
    }

    private static void promise27digest() {
        same("27 new", new Board().digest(), DueDigest.of(Board::new, ""));
        Board board = ofAllKinds();
        same("27 all kinds", board.digest(), DueDigest.of(PromisesTest::ofAllKinds, "1,~!"));
        same("27 twice", board.digest(), DueDigest.of(PromisesTest::ofAllKinds, "1,~!"));
        board.clear();
        same("27 with text only", board.digest(), DueDigest.of(Board::new, "1,~!"));
        board.clearBuffer();
        same("27 as new", board.digest(), new Board().digest());
        same("27 full", Board.full().digest(), DueDigest.of(Board::full, ""));
    }

    private static void refusedCallsChangeNothing() {
        Board board = new Board();
        board.draw("0,0-5,5", 0, 0, 3);
        board.undo(0);
        board.lease(1, 9, 9, 5);
        board.type("1,");
        long before = board.digest();
        CHECKS.state("none stroke", () -> board.stroke(0, 0, 1, 0));
        CHECKS.state("none erase", () -> board.erase(0, 0, 1));
        CHECKS.argument("none fill", () -> board.fill(0, 0, 0, 0));
        CHECKS.state("none undo", () -> board.undo(0));
        CHECKS.state("none redo", () -> board.redo(1));
        CHECKS.argument("none lease", () -> board.lease(2, 0, 5, 0));
        same("none lease refused", board.lease(2, 0, 15, 1), -1);
        CHECKS.index("none release", () -> board.release(5));
        CHECKS.index("none setMark", () -> board.setMark(6));
        CHECKS.state("none rewind", () -> board.rewind(0));
        CHECKS.argument("none pass", () -> board.pass(0));
        CHECKS.argument("none append", () -> board.append(10));
        same("refused calls change nothing", board.digest(), before);
        same("redo is still there", board.redo(0), 0);
    }

    private static void fullLogIsUsable() {
        Board board = Board.full();
        same("full count", board.count(1), 60);
        same("full mark", board.setMark(0), 60);
        same("full undo", board.undo(4), 59);
        same("full undo", board.undo(0), 55);
        same("full switch", board.ifSwitched(59), board.difference(0));
        same("full redo", board.redo(4), 59);
        same("full redoable", board.user(0, 2), 1);
        same("full mark", board.setMark(1), 60);
        same("full rewind", board.rewind(0), 0);
        same("full active", board.count(2), 60);
        same("full picture", board.difference(0), 0);
        CHECKS.state("full redo is forgotten", () -> board.redo(0));
        same("full later", board.colorLater(0, 1000), board.color(0));
        CHECKS.index("full last number", () -> board.operation(60, 0));
        same("full last number", board.operation(59, 1), 4);
        for (int user = 0; user < 5; user++) {
            for (int i = 0; i < 12; i++) {
                board.undo(user);
            }
            same("full all undone", board.user(user, 1), 0);
            same("full all undone", board.user(user, 2), 12);
        }
        same("full blank", board.count(3), 0);
        CHECKS.state("full undone ones stay", () -> board.fill(0, 0, 1, 0));
        for (int i = 0; i < 12; i++) {
            same("full redo", board.redo(3), 5 * i + 3);
        }
    }

    /** What an operation, a lease or a mark of earlier had must not come back in a later one. */
    private static void rowsAreUsedAgain() {
        Board board = new Board();
        board.drawFading("0,0-9,9", 0, 3, 5);
        board.erase("3,3", 0, 2, 1);
        board.undo(0);
        board.undo(0);
        board.lease(1, 0, 255, 999);
        board.setMark(0);
        board.clear();
        same("again one cell", board.draw("4,4", 0, 2, 6), 1);
        showsOnly("again", board, 6, 68);
        CHECKS.state("again no redo", () -> board.redo(0));
        same("again a fill", board.fill(1, 0, 2, 0), 255);
        same("again hidden", board.count(8), 0);
        board.clear();
        board.drawFading("0,0", 0, 3, 5);
        board.clear();
        same("again a fill without fading", board.fill(0, 0, 2, 0), 256);
        board.pass(900);
        same("again it stays", board.count(3), 256);
        same("again strength", board.operation(0, 10), 100);
        same("again a small lease", board.lease(0, 7, 7, 3), 1);
        same("again its cells", board.count(6), 1);
        same("again a small fill", board.draw("1,1", 2, 2, 9), 1);
        board.setMark(2);
        board.undo(2);
        board.draw("2,2", 2, 2, 9);
        board.rewind(2);
        same("again a region", board.fill(3, 1, 8, 17), 1);
        same("again its number", board.operation(2, 6), 1);
    }
}
