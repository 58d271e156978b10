import java.util.ArrayDeque;
import java.util.ArrayList;
import java.util.Arrays;
import java.util.Deque;
import java.util.HashSet;
import java.util.List;
import java.util.Set;
import java.util.TreeSet;
import java.util.function.BiPredicate;
import java.util.regex.Pattern;

/**
 * The document once more, in the plainest way: every answer is computed from the log when it is asked for.
 * It shares no idea with SharedBoard but the document, and is not fast.
 */
final class NaiveBoard {
    private static final Pattern POINT = Pattern.compile("(\\d|1[0-5]),(\\d|1[0-5])");

    private record Op(int sort, int user, int layer, int paint, int fade, int born, Set<Integer> cells) {
        boolean vanished(int t) {
            return fade > 0 && t >= born + fade;
        }

        int strength(int t) {
            return sort == 2 || vanished(t) ? 0 : fade == 0 ? 100 : (int) Math.floor(100.0 * (born + fade - t) / fade);
        }
    }

    private record Area(int user, int x1, int y1, int x2, int y2, int end) {
        boolean has(int cell) {
            return cell % 16 >= x1 && cell % 16 <= x2 && cell / 16 >= y1 && cell / 16 <= y2;
        }
    }

    private record Snapshot(List<Op> ops, List<Boolean> active, int tick) {
    }

    private List<Op> ops = new ArrayList<>();
    private List<Boolean> active = new ArrayList<>();
    private final List<Deque<Integer>> undone = new ArrayList<>();
    private final List<Area> areas = new ArrayList<>();
    private final Snapshot[] marks = new Snapshot[6];
    private final StringBuilder text = new StringBuilder();
    private int tick = 0;

    NaiveBoard() {
        for (int i = 0; i < 5; i++) {
            undone.add(new ArrayDeque<>());
        }
    }

    private static void index(boolean fine) {
        if (!fine) {
            throw new IndexOutOfBoundsException();
        }
    }

    private static void argument(boolean fine) {
        if (!fine) {
            throw new IllegalArgumentException();
        }
    }

    private static void state(boolean fine) {
        if (!fine) {
            throw new IllegalStateException();
        }
    }

    private static boolean in(int value, int low, int high) {
        return low <= value && value <= high;
    }

    int clear() {
        int had = ops.size();
        ops = new ArrayList<>();
        active = new ArrayList<>();
        undone.forEach(Deque::clear);
        areas.clear();
        Arrays.fill(marks, null);
        tick = 0;
        return had;
    }

    int pass(int ticks) {
        argument(in(ticks, 1, 1000));
        state(tick + ticks <= 100000);
        tick += ticks;
        return tick;
    }

    int append(int code) {
        argument(in(code, 33, 126));
        state(text.length() < 40);
        text.append((char) code);
        return text.length();
    }

    int clearBuffer() {
        int had = text.length();
        text.setLength(0);
        return had;
    }

    private static boolean isPath(String path) {
        String[] points = path.split("-", -1);
        for (String point : points) {
            if (!POINT.matcher(point).matches()) {
                return false;
            }
        }
        return points.length <= 6;
    }

    /** Some text begins with this if one of the shortest ways to go on makes it a path. */
    private static boolean begins(String start) {
        for (String end : new String[] {"", "0", "0,0", ",0"}) {
            if (isPath(start + end)) {
                return true;
            }
        }
        return false;
    }

    int firstError() {
        for (int i = 0; i < text.length(); i++) {
            if (!begins(text.substring(0, i + 1))) {
                return i;
            }
        }
        return text.length();
    }

    private static int rounded(int v, int n) {
        double share = Math.abs((double) v) / n;
        int size = (int) Math.floor(share + 0.5);
        return v < 0 ? -size : size;
    }

    private static Set<Integer> pathCells(String path) {
        Set<Integer> cells = new TreeSet<>();
        String[] points = path.split("-");
        for (int i = 0; i < points.length; i++) {
            int x2 = Integer.parseInt(points[i].split(",")[0]);
            int y2 = Integer.parseInt(points[i].split(",")[1]);
            cells.add(16 * y2 + x2);
            if (i > 0) {
                int x1 = Integer.parseInt(points[i - 1].split(",")[0]);
                int y1 = Integer.parseInt(points[i - 1].split(",")[1]);
                int n = Math.max(Math.abs(x2 - x1), Math.abs(y2 - y1));
                for (int k = 0; k <= n && n > 0; k++) {
                    cells.add(16 * (y1 + rounded(k * (y2 - y1), n)) + x1 + rounded(k * (x2 - x1), n));
                }
            }
        }
        return cells;
    }

    private boolean inForce(Area area) {
        return tick < area.end;
    }

    private boolean closed(int cell, int user) {
        return areas.stream().anyMatch(a -> inForce(a) && a.user != user && a.has(cell));
    }

    private int add(int sort, int user, int layer, int paint, int fade, Set<Integer> cells) {
        cells.removeIf(cell -> closed(cell, user));
        ops.add(new Op(sort, user, layer, paint, fade, tick, cells));
        active.add(true);
        undone.get(user).clear();
        return cells.size();
    }

    int stroke(int user, int layer, int color, int fade) {
        index(in(user, 0, 4) && in(layer, 0, 2));
        argument(in(color, 1, 9) && in(fade, 0, 999));
        state(isPath(text.toString()) && ops.size() < 60);
        int size = add(0, user, layer, color, fade, pathCells(text.toString()));
        text.setLength(0);
        return size;
    }

    int erase(int user, int layer, int kind) {
        index(in(user, 0, 4) && in(layer, 0, 2));
        argument(in(kind, 0, 2));
        state(isPath(text.toString()) && ops.size() < 60);
        int[] before = colors();
        add(2, user, layer, kind, 0, pathCells(text.toString()));
        text.setLength(0);
        return differences(before, colors());
    }

    int fill(int user, int layer, int color, int cell) {
        index(in(user, 0, 4) && in(layer, 0, 2) && in(cell, 0, 255));
        argument(in(color, 1, 9));
        state(ops.size() < 60);
        int[] colors = colors();
        Set<Integer> alike = new HashSet<>();
        for (int other = 0; other < 256; other++) {
            if (colors[other] == colors[cell]) {
                alike.add(other);
            }
        }
        for (Set<Integer> part : parts(alike, NaiveBoard::neighbors)) {
            if (part.contains(cell)) {
                return add(1, user, layer, color, 0, part);
            }
        }
        throw new AssertionError();
    }

    private static boolean neighbors(int a, int b) {
        return Math.abs(a % 16 - b % 16) + Math.abs(a / 16 - b / 16) == 1;
    }

    private static boolean near(int a, int b) {
        return a != b && Math.abs(a % 16 - b % 16) <= 1 && Math.abs(a / 16 - b / 16) <= 1;
    }

    /** Joins, cell by cell, the parts that the cell touches. */
    private static List<Set<Integer>> parts(Set<Integer> cells, BiPredicate<Integer, Integer> step) {
        List<Set<Integer>> parts = new ArrayList<>();
        for (int cell : cells) {
            Set<Integer> joined = new TreeSet<>(Set.of(cell));
            List<Set<Integer>> apart = new ArrayList<>();
            for (Set<Integer> part : parts) {
                if (part.stream().anyMatch(other -> step.test(cell, other))) {
                    joined.addAll(part);
                } else {
                    apart.add(part);
                }
            }
            apart.add(joined);
            parts = apart;
        }
        return parts;
    }

    int undo(int user) {
        index(in(user, 0, 4));
        for (int i = ops.size() - 1; i >= 0; i--) {
            if (active.get(i) && ops.get(i).user == user) {
                active.set(i, false);
                undone.get(user).push(i);
                return i;
            }
        }
        throw new IllegalStateException();
    }

    int redo(int user) {
        index(in(user, 0, 4));
        state(!undone.get(user).isEmpty());
        int number = undone.get(user).pop();
        active.set(number, true);
        return number;
    }

    int lease(int user, int first, int last, int ticks) {
        index(in(user, 0, 4) && in(first, 0, 255) && in(last, 0, 255));
        argument(in(ticks, 1, 999));
        Area area = new Area(user, Math.min(first % 16, last % 16), Math.min(first / 16, last / 16),
            Math.max(first % 16, last % 16), Math.max(first / 16, last / 16), tick + ticks);
        for (int cell = 0; cell < 256; cell++) {
            if (area.has(cell) && closed(cell, user)) {
                return -1;
            }
        }
        if (count(5) == 6) {
            return -1;
        }
        areas.add(area);
        return count(5);
    }

    int release(int user) {
        index(in(user, 0, 4));
        int had = user(user, 4);
        areas.removeIf(a -> a.user == user && inForce(a));
        return had;
    }

    int holder(int cell) {
        index(in(cell, 0, 255));
        return areas.stream().filter(a -> inForce(a) && a.has(cell)).mapToInt(Area::user).min().orElse(-1);
    }

    int setMark(int mark) {
        index(in(mark, 0, 5));
        marks[mark] = new Snapshot(new ArrayList<>(ops), new ArrayList<>(active), tick);
        return ops.size();
    }

    int replay(int mark, int cell) {
        index(in(mark, 0, 5) && in(cell, 0, 255));
        state(marks[mark] != null);
        return colors(marks[mark].ops, marks[mark].active, marks[mark].tick)[cell];
    }

    int difference(int mark) {
        index(in(mark, 0, 5));
        state(marks[mark] != null);
        return differences(colors(), colors(marks[mark].ops, marks[mark].active, marks[mark].tick));
    }

    int rewind(int mark) {
        index(in(mark, 0, 5));
        state(marks[mark] != null);
        int removed = ops.size() - marks[mark].ops.size();
        ops = new ArrayList<>(ops.subList(0, marks[mark].ops.size()));
        active = new ArrayList<>(marks[mark].active);
        undone.forEach(Deque::clear);
        for (int i = 0; i < 6; i++) {
            if (marks[i] != null && marks[i].ops.size() > ops.size()) {
                marks[i] = null;
            }
        }
        return removed;
    }

    private static List<Set<Integer>> left(List<Op> ops, List<Boolean> active) {
        List<Set<Integer>> left = new ArrayList<>();
        for (int i = 0; i < ops.size(); i++) {
            Op op = ops.get(i);
            left.add(new TreeSet<>(active.get(i) && op.sort != 2 ? op.cells : Set.of()));
            for (int j = 0; j < i && active.get(i) && op.sort == 2; j++) {
                Op hit = ops.get(j);
                Set<Integer> there = left.get(j);
                if (hit.layer > op.layer || op.paint == 2 && hit.user != op.user) {
                    continue;
                }
                boolean touched = there.removeAll(op.cells);
                if (op.paint == 1 && touched) {
                    there.clear();
                }
            }
        }
        return left;
    }

    private static int[] tops(List<Op> ops, List<Boolean> active, int t) {
        List<Set<Integer>> left = left(ops, active);
        int[] tops = new int[256];
        for (int cell = 0; cell < 256; cell++) {
            int best = -1;
            for (int i = 0; i < ops.size(); i++) {
                if (left.get(i).contains(cell) && !ops.get(i).vanished(t)
                        && (best < 0 || ops.get(i).layer >= ops.get(best).layer)) {
                    best = i;
                }
            }
            tops[cell] = best;
        }
        return tops;
    }

    private static int[] colors(List<Op> ops, List<Boolean> active, int t) {
        return Arrays.stream(tops(ops, active, t)).map(top -> top < 0 ? 0 : ops.get(top).paint).toArray();
    }

    private int[] tops() {
        return tops(ops, active, tick);
    }

    private int[] colors() {
        return colors(ops, active, tick);
    }

    private static int differences(int[] a, int[] b) {
        int found = 0;
        for (int i = 0; i < 256; i++) {
            found += a[i] == b[i] ? 0 : 1;
        }
        return found;
    }

    int color(int cell) {
        index(in(cell, 0, 255));
        return colors()[cell];
    }

    int colorLater(int cell, int ticks) {
        index(in(cell, 0, 255));
        argument(in(ticks, 0, 1000));
        return colors(ops, active, tick + ticks)[cell];
    }

    int top(int cell) {
        index(in(cell, 0, 255));
        return tops()[cell];
    }

    int count(int what) {
        argument(in(what, 0, 9));
        return switch (what) {
            case 0 -> tick;
            case 1 -> ops.size();
            case 2 -> (int) active.stream().filter(a -> a).count();
            case 3 -> (int) Arrays.stream(colors()).filter(c -> c > 0).count();
            case 4 -> (int) Arrays.stream(colors()).filter(c -> c > 0).distinct().count();
            case 5 -> (int) areas.stream().filter(this::inForce).count();
            case 6 -> {
                int held = 0;
                for (int cell = 0; cell < 256; cell++) {
                    held += holder(cell) < 0 ? 0 : 1;
                }
                yield held;
            }
            case 7 -> (int) Arrays.stream(marks).filter(m -> m != null).count();
            case 8 -> {
                int hidden = 0;
                for (int i = 0; i < ops.size(); i++) {
                    hidden += !ops.get(i).vanished(tick) && operation(i, 7) > 0 && operation(i, 9) == 0 ? 1 : 0;
                }
                yield hidden;
            }
            default -> {
                int[] colors = colors();
                Set<Integer> all = new TreeSet<>();
                for (int cell = 0; cell < 256; cell++) {
                    all.add(cell);
                }
                yield parts(all, (a, b) -> neighbors(a, b) && colors[a] == colors[b]).size();
            }
        };
    }

    int operation(int operation, int what) {
        index(in(operation, 0, ops.size() - 1));
        argument(in(what, 0, 10));
        Op op = ops.get(operation);
        return switch (what) {
            case 0 -> op.sort;
            case 1 -> op.user;
            case 2 -> op.layer;
            case 3 -> op.paint;
            case 4 -> op.born;
            case 5 -> active.get(operation) ? 1 : 0;
            case 6 -> op.cells.size();
            case 7 -> left(ops, active).get(operation).size();
            case 8 -> parts(left(ops, active).get(operation), NaiveBoard::near).size();
            case 9 -> (int) Arrays.stream(tops()).filter(top -> top == operation).count();
            default -> op.strength(tick);
        };
    }

    int ifSwitched(int operation) {
        index(in(operation, 0, ops.size() - 1));
        List<Boolean> switched = new ArrayList<>(active);
        switched.set(operation, !active.get(operation));
        return differences(colors(), colors(ops, switched, tick));
    }

    int user(int user, int what) {
        index(in(user, 0, 4));
        argument(in(what, 0, 4));
        return switch (what) {
            case 0 -> (int) ops.stream().filter(op -> op.user == user).count();
            case 1 -> {
                int found = 0;
                for (int i = 0; i < ops.size(); i++) {
                    found += active.get(i) && ops.get(i).user == user ? 1 : 0;
                }
                yield found;
            }
            case 2 -> undone.get(user).size();
            case 3 -> (int) Arrays.stream(tops()).filter(top -> top >= 0 && ops.get(top).user == user).count();
            default -> (int) areas.stream().filter(a -> inForce(a) && a.user == user).count();
        };
    }

    double meanStrength() {
        return Arrays.stream(tops()).filter(top -> top >= 0).map(top -> ops.get(top).strength(tick)).average().orElse(0.0);
    }

    long digest() {
        List<Integer> values = new ArrayList<>();
        for (int what = 0; what < 10; what++) {
            values.add(count(what));
        }
        for (int color : colors()) {
            values.add(color);
        }
        for (int i = 0; i < ops.size(); i++) {
            for (int what = 0; what < 11; what++) {
                values.add(operation(i, what));
            }
        }
        for (int user = 0; user < 5; user++) {
            for (int what = 0; what < 5; what++) {
                values.add(user(user, what));
            }
        }
        for (int mark = 0; mark < 6; mark++) {
            if (marks[mark] != null) {
                values.add(difference(mark));
            }
        }
        values.add(text.length());
        text.chars().forEach(values::add);
        long hash = 1933;
        for (int value : values) {
            hash = 31 * hash + value;
        }
        return hash;
    }
}
