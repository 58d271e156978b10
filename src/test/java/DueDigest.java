import java.util.function.Supplier;

/** The hash of the document, computed from the answers of the other calls. */
final class DueDigest {
    private long hash = 1933;

    private void add(long value) {
        hash = 31 * hash + value;
    }

    /** Each part asks a board of its own, so that none is asked too often. */
    static long of(Supplier<Board> maker, String text) {
        DueDigest due = new DueDigest();
        Board board = maker.get();
        for (int what = 0; what < 10; what++) {
            due.add(board.count(what));
        }
        due.addColors(maker);
        int operations = board.count(1);
        for (int number = 0; number < operations; number++) {
            Board asked = maker.get();
            for (int what = 0; what <= 10; what++) {
                due.add(asked.operation(number, what));
            }
        }
        for (int user = 0; user < 5; user++) {
            for (int what = 0; what < 5; what++) {
                due.add(board.user(user, what));
            }
        }
        due.addMarks(board);
        due.add(text.length());
        for (int i = 0; i < text.length(); i++) {
            due.add(text.charAt(i));
        }
        return due.hash;
    }

    private void addColors(Supplier<Board> maker) {
        Board board = maker.get();
        for (int cell = 0; cell < 256; cell++) {
            add(board.color(cell));
        }
    }

    private void addMarks(Board board) {
        for (int mark = 0; mark < 6; mark++) {
            try {
                add(board.difference(mark));
            } catch (IllegalStateException notSet) {
                continue;
            }
        }
    }
}
