import java.io.IOException;
import java.util.EnumMap;
import java.util.Map;
import java.util.function.Supplier;

/**
 * Checks that name the promise and the sentence they hold the class to. A call of terms or promise cites
 * sentences of the document; all checks up to the next citation are made for these.
 */
final class Sentences {
    static final int LOW = Integer.MIN_VALUE;
    static final int HIGH = Integer.MAX_VALUE;

    /** A call, or a run of calls, of the board that is given. */
    interface CallOf {
        void on(Board board);
    }

    private final Checks checks = new Checks("SentencesTest");
    private final Document document;
    private final Map<Situation, Map<View, String>> undisturbed = new EnumMap<>(Situation.class);
    private String cited = "";
    private int madeBefore = 0;

    Sentences() throws IOException {
        document = Document.read();
    }

    void terms(String... sentences) {
        cite("Terms", sentences);
    }

    void promise(int number, String... sentences) {
        cite("Promise " + number, sentences);
    }

    void cite(String heading, String... sentences) {
        refuseEmptyCitation();
        cited = heading + ", \"" + String.join(" .. ", sentences) + "\": ";
        for (String sentence : sentences) {
            if (document.isRead() && !document.cite(heading, sentence)) {
                checks.report(heading + " does not say: " + sentence);
            }
        }
        madeBefore = checks.made();
    }

    private void refuseEmptyCitation() {
        if (!cited.isEmpty() && checks.made() == madeBefore) {
            checks.report(cited + "no check is made for it");
        }
    }

    void end() {
        refuseEmptyCitation();
        document.uncited().forEach((heading, rest) -> checks.report(heading + ": no test cites \"" + rest + "\""));
        checks.end();
    }

    void same(String what, long got, long due) {
        checks.same(cited + what, got, due);
    }

    void same(String what, double got, double due) {
        checks.same(cited + what, got, due);
    }

    /** These cells, each named once, show the color, and all others are blank. */
    void showsOnly(String what, Board board, int color, int... cells) {
        for (int cell : cells) {
            same(what + ", cell " + cell, board.color(cell), color);
        }
        same(what + ", cells", board.count(3), cells.length);
    }

    /** The first cells show these colors. */
    void showsRow(String what, Board board, int... colors) {
        for (int cell = 0; cell < colors.length; cell++) {
            same(what + ", cell " + cell, board.color(cell), colors[cell]);
        }
    }

    // ---- calls that throw

    /** Each of the calls throws in every situation, and then nothing has changed. */
    void index(String what, CallOf... calls) {
        refused(what, IndexOutOfBoundsException.class, Situation.values(), calls);
    }

    void argument(String what, CallOf... calls) {
        refused(what, IllegalArgumentException.class, Situation.values(), calls);
    }

    /** Each of the calls throws in this situation, and then nothing has changed. */
    void stateIn(Situation situation, String what, CallOf... calls) {
        refused(what, IllegalStateException.class, new Situation[] {situation}, calls);
    }

    void argumentIn(Situation situation, String what, CallOf... calls) {
        refused(what, IllegalArgumentException.class, new Situation[] {situation}, calls);
    }

    /** For a board in a state of its own; whether something has changed is seen by the digest alone. */
    void stateOf(Board board, String what, CallOf call) {
        thrown(board, what, IllegalStateException.class, call);
    }

    void indexOf(Board board, String what, CallOf call) {
        thrown(board, what, IndexOutOfBoundsException.class, call);
    }

    private void thrown(Board board, String what, Class<?> due, CallOf call) {
        long before = board.digest();
        checks.refused(cited + what, due, () -> call.on(board));
        same(what + " changes the digest", board.digest(), before);
    }

    private void refused(String what, Class<?> due, Situation[] situations, CallOf[] calls) {
        for (Situation situation : situations) {
            unchanged(what, situation, board -> {
                for (int i = 0; i < calls.length; i++) {
                    CallOf call = calls[i];
                    checks.refused(cited + what + ", call " + i + " in " + situation, due, () -> call.on(board));
                }
            });
        }
    }

    // ---- calls that change nothing

    /** In every situation the run of calls changes nothing that can be seen then or later. */
    void changesNothing(String what, CallOf run) {
        for (Situation situation : Situation.values()) {
            unchanged(what, situation, run);
        }
    }

    void unchanged(String what, Situation situation, CallOf run) {
        for (View view : View.values()) {
            Board board = situation.make();
            run.on(board);
            checks.isTrue(cited + what + " changes " + view + " in " + situation,
                view.of(board).equals(undisturbed(situation, view)));
        }
    }

    private String undisturbed(Situation situation, View view) {
        return undisturbed.computeIfAbsent(situation, key -> new EnumMap<>(View.class))
            .computeIfAbsent(view, key -> view.of(situation.make()));
    }

    /** Both boards answer alike now and later; they are made anew for each view. */
    void alike(String what, Supplier<Board> some, Supplier<Board> other) {
        for (View view : View.values()) {
            checks.isTrue(cited + what + ", seen by " + view, view.of(some.get()).equals(view.of(other.get())));
        }
    }
}
