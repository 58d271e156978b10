/** States of a board, from which refused calls and questions are tried; each is made in some 250 calls at most. */
enum Situation {
    /** Nothing has been done. */
    NEW(""),
    /** All sorts of operations, undone ones, leases, marks, fading, and the text of a path. */
    BUSY("1,2-3,4"),
    /** As BUSY, but the text of a path has only begun. */
    UNFINISHED_TEXT("1,2-"),
    /** As BUSY, but with a syntax error in the text. */
    WRONG_TEXT("1,2-16"),
    /** As BUSY, but with 40 characters. */
    FULL_BUFFER("15,15-15,15-15,15-15,15-15,15-15,15-~!~!"),
    /** 60 operations. */
    FULL_LOG("0,0-15,15"),
    /** Tick 100000. */
    LAST_TICK("7,7"),
    /** 6 leases in force, of two users. */
    SIX_LEASES("4,4-4,8");

    final String text;

    Situation(String text) {
        this.text = text;
    }

    Board make() {
        Board board = new Board();
        switch (this) {
            case NEW -> { }
            case FULL_LOG -> fillLog(board);
            case LAST_TICK -> goToLastTick(board);
            case SIX_LEASES -> leaseSix(board);
            default -> work(board);
        }
        return board.type(text);
    }

    private static void work(Board board) {
        board.pass(3);
        board.setMark(4);
        board.draw("0,0-6,3", 0, 1, 5);
        board.drawFading("5,5-5,9", 1, 7, 20);
        board.fill(2, 0, 4, 255);
        board.erase("4,2-5,7", 0, 1, 0);
        board.setMark(0);
        board.lease(3, 100, 135, 30);
        board.lease(3, 200, 200, 6);
        board.lease(1, 15, 31, 8);
        board.draw("9,9-2,9", 3, 2, 1);
        board.draw("8,8", 0, 0, 2);
        board.undo(0);
        board.undo(0);
        board.undo(1);
        board.setMark(2);
        board.erase("9,9", 2, 2, 1);
        board.draw("1,1", 4, 0, 9);
        board.undo(4);
        board.draw("2,1", 4, 0, 9);
        board.setMark(5);
        board.pass(2);
    }

    private static void fillLog(Board board) {
        work(board);
        for (int i = board.count(1); i < 60; i++) {
            board.fill(i % 4, i % 3, 1 + i % 9, 4 * i);
        }
        board.setMark(1);
        // Users 0, 1, 3 and 4 have something to redo, which a refused stroke must not forget.
        for (int user : new int[] {3, 3, 1, 0, 4}) {
            board.undo(user);
        }
    }

    private static void goToLastTick(Board board) {
        work(board);
        board.passUpTo(99995);
        board.drawFading("3,3-6,3", 1, 8, 10);
        board.lease(2, 17, 17, 20);
        board.undo(3);
        board.passUpTo(100000);
    }

    private static void leaseSix(Board board) {
        work(board);
        board.release(3);
        board.release(1);
        for (int i = 0; i < 6; i++) {
            board.lease(i % 2, 80 + i, 96 + i, 10 + i);
        }
    }
}
