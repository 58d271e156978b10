/** The sentences of promises 12 to 14. */
final class LeaseSentences {
    private static final int LOW = Sentences.LOW;
    private static final int HIGH = Sentences.HIGH;

    private final Sentences doc;

    LeaseSentences(Sentences doc) {
        this.doc = doc;
    }

    void check() {
        rectangle();
        refusedByClosedCells();
        refusedByNumber();
        ticks();
        exceptions();
        release();
        holder();
    }

    private void rectangle() {
        doc.promise(12, "Leases a rectangle.", "`user`: user number", "`first`: a cell at a corner of the rectangle",
            "`last`: the cell at the opposite corner, also the same");
        // Columns 1 to 3 of the rows 2 to 4, from each of its corners.
        int[][] corners = {{33, 67}, {67, 33}, {65, 35}, {35, 65}};
        for (int i = 0; i < corners.length; i++) {
            Board board = new Board();
            doc.same("leases", board.lease(i, corners[i][0], corners[i][1], 9), 1);
            doc.same("cells", board.count(6), 9);
            for (int cell = 0; cell < 256; cell++) {
                int x = cell % 16;
                int y = cell / 16;
                doc.same("from " + corners[i][0] + " cell " + cell, board.holder(cell),
                    x >= 1 && x <= 3 && y >= 2 && y <= 4 ? i : -1);
            }
        }
        int[][] others = {{0, 0, 1}, {255, 255, 1}, {77, 77, 1}, {0, 255, 256}, {15, 240, 256}, {240, 15, 256}, {255, 0, 256},
            {0, 15, 16}, {0, 240, 16}, {15, 16, 32}, {16, 15, 32}, {15, 255, 16}, {239, 240, 32}};
        for (int[] other : others) {
            Board board = new Board();
            doc.same("leases", board.lease(4, other[0], other[1], 9), 1);
            doc.same("cells from " + other[0] + " to " + other[1], board.count(6), other[2]);
            doc.same("first", board.holder(other[0]), 4);
            doc.same("last", board.holder(other[1]), 4);
        }
    }

    private void refusedByClosedCells() {
        doc.promise(12, "It is refused if it has a cell that is closed for the user",
            "Returns how many leases are in force afterwards; NONE if it was refused.");
        // User 0 holds columns 4 to 6 of the rows 4 to 6.
        int[][] meeting = {{68, 68}, {102, 255}, {0, 68}, {15, 70}, {240, 100}, {0, 255}, {80, 95}, {5, 245}, {85, 85}};
        for (int[] area : meeting) {
            Board board = new Board();
            board.lease(0, 68, 102, 9);
            long before = board.digest();
            doc.same("from " + area[0] + " to " + area[1], board.lease(1, area[0], area[1], 9), -1);
            doc.same("nothing changes", board.digest(), before);
            doc.same("nothing is leased", board.user(1, 4), 0);
            doc.same("the own cells are not closed", board.lease(0, area[0], area[1], 9), 2);
        }
        int[][] beside = {{0, 63}, {112, 255}, {0, 243}, {7, 255}, {67, 67}, {71, 71}, {52, 52}, {116, 116}, {51, 51},
            {119, 119}, {55, 55}, {115, 115}};
        for (int[] area : beside) {
            Board board = new Board();
            board.lease(0, 68, 102, 9);
            doc.same("beside it, from " + area[0] + " to " + area[1], board.lease(1, area[0], area[1], 9), 2);
        }
        Board over = new Board();
        over.lease(0, 68, 102, 3);
        doc.same("before its end", over.lease(1, 68, 68, 1), -1);
        over.pass(2);
        doc.same("a tick before its end", over.lease(1, 68, 68, 1), -1);
        over.pass(1);
        doc.same("at its end", over.lease(1, 68, 68, 1), 1);
        doc.same("now closed for the other", over.lease(0, 68, 102, 1), -1);
        over.release(1);
        doc.same("released", over.lease(0, 68, 102, 1), 1);
        for (Situation situation : new Situation[] {Situation.BUSY, Situation.FULL_LOG, Situation.WRONG_TEXT}) {
            doc.unchanged("a refused lease", situation, b -> {
                doc.same("closed", b.lease(0, 0, 255, 999), -1);
                doc.same("closed at a corner", b.lease(4, 135, 255, 1), -1);
            });
        }
    }

    private void refusedByNumber() {
        doc.promise(12, ", or if there are 6 leases in force.");
        Board board = new Board();
        for (int i = 0; i < 6; i++) {
            doc.same("lease " + i, board.lease(i % 5, i, i, 5 + i), i + 1);
        }
        for (int user = 0; user < 5; user++) {
            doc.same("a seventh", board.lease(user, 200, 200, 1), -1);
            doc.same("also over the own one", board.lease(user, user, user, 1), -1);
        }
        doc.same("also where it is closed", board.lease(0, 0, 255, 1), -1);
        doc.same("six", board.count(5), 6);
        doc.same("nobody holds it", board.holder(200), -1);
        board.pass(4);
        doc.same("a tick before one ends", board.lease(4, 200, 200, 1), -1);
        board.pass(1);
        doc.same("one has ended", board.lease(4, 200, 200, 1), 6);
        doc.same("six again", board.lease(4, 201, 201, 1), -1);
        board.release(4);
        doc.same("two are released", board.lease(4, 201, 201, 1), 5);
        Board own = new Board();
        for (int i = 0; i < 6; i++) {
            doc.same("all of one user, the same cell", own.lease(2, 9, 9, 9), i + 1);
        }
        doc.same("a seventh of it", own.lease(2, 9, 9, 9), -1);
        doc.unchanged("a seventh", Situation.SIX_LEASES, b -> {
            doc.same("own", b.lease(0, 80, 80, 999), -1);
            doc.same("elsewhere", b.lease(4, 255, 255, 1), -1);
        });
    }

    private void ticks() {
        doc.promise(12, "`ticks`: for how many ticks, 1 to 999; the lease ends at the present tick plus this number");
        for (int start : new int[] {0, 7, 98000}) {
            for (int ticks : new int[] {1, 2, 999}) {
                Board board = new Board().passUpTo(start);
                doc.same("leases", board.lease(0, 9, 9, ticks), 1);
                board.passUpTo(start + ticks - 1);
                doc.same("the last tick", board.holder(9), 0);
                board.passUpTo(start + ticks);
                doc.same("its end", board.holder(9), -1);
                doc.same("none in force", board.count(5), 0);
                doc.same("nothing to release", board.release(0), 0);
            }
        }
    }

    private void exceptions() {
        doc.promise(12, "Throws `IndexOutOfBoundsException` if the user or a cell does not exist");
        doc.index("user", b -> b.lease(-1, 0, 0, 1), b -> b.lease(5, 0, 0, 1), b -> b.lease(LOW, 0, 0, 1),
            b -> b.lease(HIGH, 0, 0, 1));
        doc.index("first", b -> b.lease(0, -1, 0, 1), b -> b.lease(4, 256, 255, 999), b -> b.lease(0, LOW, 0, 1),
            b -> b.lease(0, HIGH, 0, 1));
        doc.index("last", b -> b.lease(0, 0, -1, 1), b -> b.lease(4, 255, 256, 999), b -> b.lease(0, 0, LOW, 1),
            b -> b.lease(0, 0, HIGH, 1));
        doc.promise(12, "Throws `IllegalArgumentException` if ticks is not 1 to 999");
        doc.argument("ticks", b -> b.lease(0, 0, 0, 0), b -> b.lease(4, 255, 255, 1000), b -> b.lease(0, 0, 0, -1),
            b -> b.lease(0, 0, 255, LOW), b -> b.lease(0, 0, 255, HIGH));
    }

    private void release() {
        doc.promise(13, "Ends all leases of a user that are in force.", "Returns how many they were.", "`user`: user number");
        doc.same("none", new Board().release(0), 0);
        Board board = new Board();
        board.lease(0, 0, 0, 2);
        board.lease(0, 1, 1, 3);
        board.lease(0, 0, 2, 4);
        board.lease(4, 3, 3, 9);
        board.pass(2);
        doc.same("those in force", board.release(0), 2);
        doc.same("ended", board.user(0, 4), 0);
        for (int cell = 0; cell < 3; cell++) {
            doc.same("nobody holds it", board.holder(cell), -1);
        }
        doc.same("not those of others", board.holder(3), 4);
        doc.same("open for others", board.draw("0,0-2,0", 4, 0, 1), 3);
        doc.same("still closed", board.draw("3,0", 0, 0, 1), 0);
        doc.same("again", board.release(0), 0);
        doc.same("the last user", board.release(4), 1);
        Board six = new Board();
        for (int i = 0; i < 6; i++) {
            six.lease(2, i, i + 32, 9);
        }
        doc.same("six", six.release(2), 6);
        doc.same("none is left", six.count(5), 0);
        doc.same("room again", six.lease(3, 0, 255, 1), 1);
        six.release(3);
        doc.same("room again", six.lease(3, 9, 9, 1), 1);
        doc.same("without the cells of the one before", six.count(6), 1);
        doc.promise(13, "Throws `IndexOutOfBoundsException` if the user does not exist");
        doc.index("user", b -> b.release(-1), b -> b.release(5), b -> b.release(LOW), b -> b.release(HIGH));
    }

    private void holder() {
        doc.promise(14, "Returns who holds a cell by a lease.", "`cell`: the cell",
            "Returns the lowest user with a lease in force that has the cell; NONE if there is none.");
        Board board = new Board();
        doc.same("no lease", board.holder(0), -1);
        board.lease(4, 0, 0, 3);
        board.lease(3, 255, 255, 2);
        board.lease(4, 0, 1, 1);
        doc.same("first cell", board.holder(0), 4);
        doc.same("last cell", board.holder(255), 3);
        doc.same("beside it", board.holder(254), -1);
        doc.same("another lease of the same user", board.holder(1), 4);
        board.pass(1);
        doc.same("ended", board.holder(1), -1);
        doc.same("by the other lease", board.holder(0), 4);
        board.lease(0, 1, 1, 9);
        doc.same("user 0", board.holder(1), 0);
        board.pass(2);
        doc.same("ended", board.holder(0), -1);
        board.lease(2, 0, 0, 9);
        doc.same("the next one who leases it", board.holder(0), 2);
        board.release(2);
        doc.same("released", board.holder(0), -1);
        Board six = new Board();
        for (int i = 0; i < 6; i++) {
            six.lease(i % 5, 17 * i, 17 * i, 9);
        }
        for (int i = 0; i < 6; i++) {
            doc.same("lease " + i + " of six", six.holder(17 * i), i % 5);
        }
        doc.promise(14, "Throws `IndexOutOfBoundsException` if the cell does not exist");
        doc.index("cell", b -> b.holder(-1), b -> b.holder(256), b -> b.holder(LOW), b -> b.holder(HIGH));
    }
}
