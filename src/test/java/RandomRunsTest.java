import java.util.Random;

/** Runs of 512 calls, from fixed seeds, on a SharedBoard and a NaiveBoard: every answer must be the same. */
public final class RandomRunsTest {
    private static final int RUNS = 120;
    private static final int CALLS = 512;
    private static final Checks CHECKS = new Checks("RandomRunsTest");

    private interface Answer {
        Object get();
    }

    private final Random random;
    private final SharedBoard board = new SharedBoard();
    private final NaiveBoard naive = new NaiveBoard();
    private final String name;
    /** 1: few colors; 2: much fading; 3: all in a corner; 0: none of these. */
    private final int style;
    private int calls = 0;

    private RandomRunsTest(int seed) {
        random = new Random(seed);
        name = "run " + seed;
        style = seed % 4;
    }

    public static void main(String[] args) {
        for (int seed = 0; seed < RUNS; seed++) {
            RandomRunsTest run = new RandomRunsTest(seed);
            while (run.calls < CALLS - 1) {
                run.step();
                run.digestNowAndThen();
            }
            run.digest();
        }
        CHECKS.end();
    }

    private void digestNowAndThen() {
        if (random.nextInt(25) == 0) {
            digest();
        }
    }

    private void digest() {
        both("digest()", board::digest, naive::digest);
    }

    private void both(String call, Answer got, Answer due) {
        calls++;
        Object is = answer(got);
        Object wanted = answer(due);
        CHECKS.isTrue(name + " call " + calls + ": " + call + " answered " + is + ", due is " + wanted, is.equals(wanted));
    }

    private static Object answer(Answer call) {
        try {
            return call.get();
        } catch (RuntimeException e) {
            return "throws." + e.getClass().getSimpleName();
        }
    }

    /** Mostly from 0 to bound - 1, now and then beside it. */
    private int number(int bound) {
        int kind = random.nextInt(120);
        if (kind == 0) {
            return -1;
        }
        if (kind == 1) {
            return bound;
        }
        if (kind == 2) {
            return random.nextInt();
        }
        return random.nextInt(bound);
    }

    private int color() {
        return 1 + number(style == 1 ? 2 : 9);
    }

    private int fade() {
        if (random.nextInt(3) == 0) {
            return number(1000);
        }
        return style == 2 ? number(30) : 0;
    }

    private void append(int code) {
        both("append(" + code + ")", () -> board.append(code), () -> naive.append(code));
    }

    private void path() {
        int points = 1 + random.nextInt(random.nextInt(4) == 0 ? 6 : 3);
        int side = style == 3 ? 5 : 16;
        StringBuilder text = new StringBuilder();
        for (int i = 0; i < points; i++) {
            text.append(i == 0 ? "" : "-").append(random.nextInt(side)).append(',').append(random.nextInt(side));
        }
        if (random.nextInt(25) == 0) {
            text.setCharAt(random.nextInt(text.length()), "0123456789,-.x".charAt(random.nextInt(14)));
        }
        for (int i = 0; i < text.length(); i++) {
            append(text.charAt(i));
        }
    }

    private void step() {
        int kind = random.nextInt(40);
        if (kind < 8) {
            drawing();
        } else if (kind < 12) {
            erasing();
        } else if (kind < 18) {
            undoing();
        } else if (kind < 22) {
            leasing();
        } else if (kind < 26) {
            marking();
        } else if (kind < 28) {
            passing();
        } else {
            asking();
        }
    }

    private void drawing() {
        int user = number(5);
        int layer = number(3);
        int color = color();
        if (random.nextInt(4) == 0) {
            int cell = number(256);
            both("fill(" + user + ", " + layer + ", " + color + ", " + cell + ")",
                () -> board.fill(user, layer, color, cell), () -> naive.fill(user, layer, color, cell));
            return;
        }
        path();
        int fade = fade();
        both("stroke(" + user + ", " + layer + ", " + color + ", " + fade + ")",
            () -> board.stroke(user, layer, color, fade), () -> naive.stroke(user, layer, color, fade));
    }

    private void erasing() {
        path();
        int user = number(5);
        int layer = number(3);
        int kind = number(3);
        both("erase(" + user + ", " + layer + ", " + kind + ")",
            () -> board.erase(user, layer, kind), () -> naive.erase(user, layer, kind));
    }

    private void undoing() {
        int user = number(5);
        if (random.nextInt(5) < 3) {
            both("undo(" + user + ")", () -> board.undo(user), () -> naive.undo(user));
        } else {
            both("redo(" + user + ")", () -> board.redo(user), () -> naive.redo(user));
        }
    }

    private void leasing() {
        int user = number(5);
        int first = number(256);
        int last = random.nextInt(3) == 0 ? number(256) : Math.min(255, first + random.nextInt(20));
        int ticks = 1 + number(random.nextInt(4) == 0 ? 999 : 12);
        switch (random.nextInt(5)) {
            case 0 -> both("release(" + user + ")", () -> board.release(user), () -> naive.release(user));
            case 1 -> both("holder(" + first + ")", () -> board.holder(first), () -> naive.holder(first));
            default -> both("lease(" + user + ", " + first + ", " + last + ", " + ticks + ")",
                () -> board.lease(user, first, last, ticks), () -> naive.lease(user, first, last, ticks));
        }
    }

    private void marking() {
        int mark = number(6);
        int cell = number(256);
        switch (random.nextInt(6)) {
            case 0 -> both("rewind(" + mark + ")", () -> board.rewind(mark), () -> naive.rewind(mark));
            case 1 -> both("replay(" + mark + ", " + cell + ")", () -> board.replay(mark, cell), () -> naive.replay(mark, cell));
            case 2, 3 -> both("difference(" + mark + ")", () -> board.difference(mark), () -> naive.difference(mark));
            default -> both("setMark(" + mark + ")", () -> board.setMark(mark), () -> naive.setMark(mark));
        }
    }

    private void passing() {
        int ticks = random.nextInt(30) == 0 ? number(1001) : 1 + number(8);
        switch (random.nextInt(60)) {
            case 0 -> both("clear()", board::clear, naive::clear);
            case 1, 2, 3 -> both("clearBuffer()", board::clearBuffer, naive::clearBuffer);
            case 4, 5 -> append(number(130));
            default -> both("pass(" + ticks + ")", () -> board.pass(ticks), () -> naive.pass(ticks));
        }
    }

    private void asking() {
        int cell = number(256);
        int user = number(5);
        int what = number(11);
        int operation = number(60) % 20;
        int ticks = number(random.nextBoolean() ? 1001 : 12);
        switch (random.nextInt(12)) {
            case 0 -> both("firstError()", board::firstError, naive::firstError);
            case 1 -> both("color(" + cell + ")", () -> board.color(cell), () -> naive.color(cell));
            case 2 -> both("colorLater(" + cell + ", " + ticks + ")",
                () -> board.colorLater(cell, ticks), () -> naive.colorLater(cell, ticks));
            case 3 -> both("top(" + cell + ")", () -> board.top(cell), () -> naive.top(cell));
            case 4, 5 -> both("count(" + what + ")", () -> board.count(what), () -> naive.count(what));
            case 6, 7 -> both("operation(" + operation + ", " + what + ")",
                () -> board.operation(operation, what), () -> naive.operation(operation, what));
            case 8, 9 -> both("ifSwitched(" + operation + ")",
                () -> board.ifSwitched(operation), () -> naive.ifSwitched(operation));
            case 10 -> both("user(" + user + ", " + what + ")",
                () -> board.user(user, what % 6), () -> naive.user(user, what % 6));
            default -> both("meanStrength()", board::meanStrength, naive::meanStrength);
        }
    }
}
