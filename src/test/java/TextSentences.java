/** The sentences of promises 4 to 6, and those of "Terms" about the input text. */
final class TextSentences {
    private static final String SIX = "0,0-0,0-0,0-0,0-0,0-0,";
    private static final String LONGEST = "15,15-15,15-15,15-15,15-15,15-15,15";

    private final Sentences doc;

    TextSentences(Sentences doc) {
        this.doc = doc;
    }

    void check() {
        buffer();
        textOfPath();
        syntaxErrors();
        append();
        clearBuffer();
        firstError();
    }

    private static boolean isPath(String text) {
        try {
            Board.typed(text).stroke(0, 0, 1, 0);
            return true;
        } catch (IllegalStateException e) {
            return false;
        }
    }

    private void paths(boolean due, String... texts) {
        for (String text : texts) {
            doc.same(text, isPath(text) ? 1 : 0, due ? 1 : 0);
        }
    }

    private void buffer() {
        doc.terms("Input text. The buffer has at most 40 characters.");
        Board board = new Board();
        for (int length = 1; length <= 40; length++) {
            doc.same("length", board.append('~'), length);
        }
        doc.stateOf(board, "a 41st", b -> b.append('~'));
        doc.same("40", board.clearBuffer(), 40);
    }

    private void textOfPath() {
        doc.terms("The text of a path is 1 to 6 points with \"-\" between them;");
        paths(true, "0,0", "0,0-0,0", SIX + "0", LONGEST);
        paths(false, "", "-", "-0,0", "0,0-", "0,0--0,0", "0,0,0,0", "0,00,0", "0,0.0,0", SIX + "0-", SIX + "0-0,0",
            LONGEST + "-", LONGEST + "-0,0");
        doc.terms("a point is the column, \",\", and the row, each as a number from 0 to 15 without leading zeros.");
        for (int number = 0; number <= 15; number++) {
            paths(true, number + ",0", "0," + number, "1,1-" + number + "," + number);
            paths(false, "0" + number + ",0", "0,0" + number, "1,1-0" + number + ",0");
        }
        for (int number : new int[] {16, 17, 19, 20, 25, 99, 100, 150, 151, 255}) {
            paths(false, number + ",0", "0," + number, "1,1-" + number + ",0", "1,1-0," + number);
        }
        paths(false, "0", "0,", ",0", "0;0", "0,,0", "+1,0", "1,+0", "a,0", "0,b", "00,0", "0,00", "1-1", "0,0x");
        Board board = new Board();
        board.draw("15,2", 0, 0, 1);
        doc.same("first the column", board.color(47), 1);
    }

    /** Only the codes of allowed, of all from 33 to 126, can follow behind the text. */
    private void onlyAllowed(String text, String allowed) {
        for (int code = 33; code <= 126; code++) {
            Board board = Board.typed(text);
            board.append(code);
            boolean fine = allowed.indexOf(code) >= 0;
            doc.same(text + " and " + (char) code, board.firstError(), fine ? text.length() + 1 : text.length());
        }
    }

    private void syntaxErrors() {
        doc.terms("The buffer is read from left to right; a character is a syntax error if no text begins with the characters "
            + "before it and this character.");
        onlyAllowed("", "0123456789");
        onlyAllowed("0", ",");
        onlyAllowed("1", "012345,");
        onlyAllowed("2", ",");
        onlyAllowed("9", ",");
        onlyAllowed("10", ",");
        onlyAllowed("15", ",");
        onlyAllowed("7,", "0123456789");
        onlyAllowed("15,", "0123456789");
        onlyAllowed("7,0", "-");
        onlyAllowed("7,1", "012345-");
        onlyAllowed("7,2", "-");
        onlyAllowed("7,10", "-");
        onlyAllowed("7,15", "-");
        onlyAllowed("7,7-", "0123456789");
        onlyAllowed("7,7-1", "012345,");
        onlyAllowed("0,0-0,0-0,0-0,0-0,0", "-");
        onlyAllowed("0,0-0,0-0,0-0,0-0,1", "012345-");
        onlyAllowed("0,0-0,0-0,0-0,0-0,0-", "0123456789");
        onlyAllowed(SIX, "0123456789");
        onlyAllowed(SIX + "0", "");
        onlyAllowed(SIX + "1", "012345");
        onlyAllowed(SIX + "9", "");
        onlyAllowed(LONGEST, "");
    }

    private void append() {
        doc.promise(4, "Appends a character to the buffer.", "Returns the new length of the buffer.",
            "`code`: the character code, 33 to 126");
        for (int code = 33; code <= 126; code++) {
            Board board = new Board();
            long empty = 31 * board.digest();
            doc.same("code " + code, board.append(code), 1);
            // The length is the last value of the hash of an empty buffer, so it can be counted up.
            doc.same("is kept", board.digest(), empty + 31 + code);
        }
        Board board = Board.typed("1,1");
        board.stroke(0, 0, 1, 0);
        doc.same("behind a stroke", board.append('1'), 1);
        doc.promise(4, "Throws `IllegalArgumentException` if code is not 33 to 126");
        doc.argument("code", b -> b.append(32), b -> b.append(127), b -> b.append(0), b -> b.append(-1), b -> b.append(10),
            b -> b.append(128), b -> b.append(256 + 48), b -> b.append(65536 + 48), b -> b.append(Sentences.LOW),
            b -> b.append(Sentences.HIGH));
        doc.promise(4, "Throws `IllegalStateException` if the buffer has 40 characters");
        doc.stateIn(Situation.FULL_BUFFER, "41st", b -> b.append(33), b -> b.append(48), b -> b.append(126));
        Board full = Board.typed(LONGEST + "!!!!");
        doc.same("the 40th", full.append('!'), 40);
        doc.stateOf(full, "the 41st", b -> b.append('!'));
        full.clearBuffer();
        doc.same("room again", full.append('!'), 1);
    }

    private void clearBuffer() {
        doc.promise(5, "Clears the buffer.", "Returns the length that it had.");
        for (int length = 0; length <= 40; length++) {
            Board board = Board.typed("0".repeat(length));
            doc.same("length", board.clearBuffer(), length);
            doc.same("empty", board.clearBuffer(), 0);
            doc.same("empty as in a new board", board.digest(), new Board().digest());
            doc.same("next", board.append('0'), 1);
        }
        for (Situation situation : Situation.values()) {
            doc.alike("nothing else changes in " + situation, () -> {
                Board board = situation.make();
                board.clearBuffer();
                return board.type(situation.text);
            }, situation::make);
        }
    }

    private void firstError() {
        doc.promise(6, "Finds the first syntax error of the buffer.",
            "Returns the index of the first character that is a syntax error; the length of the buffer if there is none.");
        doc.same("an empty buffer", new Board().firstError(), 0);
        doc.same("the first character", Board.typed("x").firstError(), 0);
        doc.same("the first of many", Board.typed("x".repeat(40)).firstError(), 0);
        doc.same("the first, not the last", Board.typed("0,0x0,0x").firstError(), 3);
        doc.same("right again behind it", Board.typed("0,0--0,0").firstError(), 4);
        for (int length = 0; length <= LONGEST.length(); length++) {
            doc.same("none in a beginning", Board.typed(LONGEST.substring(0, length)).firstError(), length);
        }
        doc.same("behind the longest text", Board.typed(LONGEST + "0").firstError(), 35);
        doc.same("in a full buffer", Board.typed(LONGEST + "-0,0-").firstError(), 35);
        doc.changesNothing("asking", b -> {
            b.firstError();
            b.firstError();
        });
    }
}
