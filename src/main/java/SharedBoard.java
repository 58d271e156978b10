/**
 * A shared whiteboard: users draw strokes on layers, erase, fill regions and lease areas.
 *
 * The log is what is kept; what is left of each operation and the picture follow from it and from the
 * tick. They are computed anew by each call that changes one of these, so that questions only read.
 * All rows are made with the object and used again: no call but the constructor keeps new objects.
 */
public final class SharedBoard {
    public static final int NONE = -1;

    private static final int SIDE = 16;
    private static final int CELLS = 256;
    private static final int USERS = 5;
    private static final int LAYERS = 3;
    private static final int COLORS = 9;
    private static final int LONGEST_FADE = 999;
    private static final int OPERATIONS = 60;
    private static final int MARKS = 6;
    private static final int LEASES = 6;
    private static final int LONGEST_LEASE = 999;
    private static final int LONGEST_PASS = 1000;
    private static final int LAST_TICK = 100000;
    private static final int POINTS = 6;
    private static final int BUFFER = 40;
    private static final int LOWEST_CODE = 33;
    private static final int HIGHEST_CODE = 126;

    private static final int STROKE = 0;
    private static final int FILL = 1;
    private static final int ERASURE = 2;

    private static final int CUTTING = 0;
    private static final int REMOVING = 1;
    private static final int OWN = 2;

    private static final int COUNTS = 10;
    private static final int OPERATION_PROPERTIES = 11;
    private static final int USER_PROPERTIES = 5;

    private final PathText buffer = new PathText();
    private final Log log = new Log();
    private final Leases leases = new Leases();
    private final Mark[] marks = new Mark[MARKS];
    /** The picture that the board shows. */
    private final Scene now = new Scene();
    /** A picture that is only asked about; any call may overwrite it. */
    private final Scene supposed = new Scene();
    private final Regions regions = new Regions();
    /** A set of cells for use within one call. */
    private final CellSet scratch = new CellSet();
    private int tick = 0;

    public SharedBoard() {
        for (int mark = 0; mark < MARKS; mark++) {
            marks[mark] = new Mark();
        }
    }

    // ---- the board

    public int clear() {
        int had = log.size;
        log.size = 0;
        leases.endAll();
        for (int mark = 0; mark < MARKS; mark++) {
            marks[mark].isSet = false;
        }
        tick = 0;
        showNow();
        return had;
    }

    public int pass(int ticks) throws IllegalArgumentException, IllegalStateException {
        if (ticks < 1 || ticks > LONGEST_PASS) {
            throw new IllegalArgumentException("ticks is not 1 to 1000");
        }
        if (tick + ticks > LAST_TICK) {
            throw new IllegalStateException("the tick would be greater than 100000");
        }
        tick += ticks;
        showNow();
        return tick;
    }

    // ---- paths

    public int append(int code) throws IllegalArgumentException, IllegalStateException {
        if (code < LOWEST_CODE || code > HIGHEST_CODE) {
            throw new IllegalArgumentException("code is not 33 to 126");
        }
        if (buffer.length >= BUFFER) {
            throw new IllegalStateException("the buffer has 40 characters");
        }
        buffer.codes[buffer.length] = code;
        buffer.length++;
        return buffer.length;
    }

    public int clearBuffer() {
        int had = buffer.length;
        buffer.length = 0;
        return had;
    }

    public int firstError() {
        return buffer.readToError();
    }

    // ---- operations

    public int stroke(int user, int layer, int color, int fade)
            throws IndexOutOfBoundsException, IllegalArgumentException, IllegalStateException {
        refuseWrongUser(user);
        refuseWrongLayer(layer);
        refuseWrongColor(color);
        if (fade < 0 || fade > LONGEST_FADE) {
            throw new IllegalArgumentException("fade is not 0 to 999");
        }
        refuseWrongPath();
        refuseFullLog();
        Operation added = log.begin(STROKE, user, layer, tick);
        added.paint = color;
        added.fade = fade;
        takeCellsFromBuffer(added);
        showNow();
        return added.cells.size();
    }

    public int erase(int user, int layer, int kind)
            throws IndexOutOfBoundsException, IllegalArgumentException, IllegalStateException {
        refuseWrongUser(user);
        refuseWrongLayer(layer);
        if (kind < CUTTING || kind > OWN) {
            throw new IllegalArgumentException("kind is not 0 to 2");
        }
        refuseWrongPath();
        refuseFullLog();
        Operation added = log.begin(ERASURE, user, layer, tick);
        added.paint = kind;
        takeCellsFromBuffer(added);
        showNow();
        // The picture before the call is the one that there would be without this erasure.
        return changedBySwitching(log.size - 1);
    }

    public int fill(int user, int layer, int color, int cell)
            throws IndexOutOfBoundsException, IllegalArgumentException, IllegalStateException {
        refuseWrongUser(user);
        refuseWrongLayer(layer);
        refuseWrongCell(cell);
        refuseWrongColor(color);
        refuseFullLog();
        Operation added = log.begin(FILL, user, layer, tick);
        added.paint = color;
        now.collectColor(now.colors[cell], scratch);
        regions.reach(cell, scratch, added.cells);
        leaveOutClosedCells(added);
        showNow();
        return added.cells.size();
    }

    public int undo(int user) throws IndexOutOfBoundsException, IllegalStateException {
        refuseWrongUser(user);
        int number = log.latestActive(user);
        if (!log.contains(number)) {
            throw new IllegalStateException("the user has no active operation");
        }
        log.switchOff(number);
        showNow();
        return number;
    }

    public int redo(int user) throws IndexOutOfBoundsException, IllegalStateException {
        refuseWrongUser(user);
        int number = log.lastUndone(user);
        if (!log.contains(number)) {
            throw new IllegalStateException("the user has no operation that can be redone");
        }
        log.switchOn(number);
        showNow();
        return number;
    }

    // ---- leases

    public int lease(int user, int first, int last, int ticks)
            throws IndexOutOfBoundsException, IllegalArgumentException {
        refuseWrongUser(user);
        refuseWrongCell(first);
        refuseWrongCell(last);
        if (ticks < 1 || ticks > LONGEST_LEASE) {
            throw new IllegalArgumentException("ticks is not 1 to 999");
        }
        leases.collectClosed(user, tick, scratch);
        if (scratch.meetsRectangle(first, last)) {
            return NONE;
        }
        int slot = leases.freeSlot(tick);
        if (slot == NONE) {
            return NONE;
        }
        leases.begin(slot, user, tick + ticks);
        leases.areas[slot].becomeRectangle(first, last);
        return leases.inForce(tick);
    }

    public int release(int user) throws IndexOutOfBoundsException {
        refuseWrongUser(user);
        return leases.endAllOf(user, tick);
    }

    public int holder(int cell) throws IndexOutOfBoundsException {
        refuseWrongCell(cell);
        return leases.lowestOwner(cell, tick);
    }

    // ---- marks

    public int setMark(int mark) throws IndexOutOfBoundsException {
        refuseWrongMark(mark);
        marks[mark].keep(log, now);
        return log.size;
    }

    public int replay(int mark, int cell) throws IndexOutOfBoundsException, IllegalStateException {
        refuseWrongMark(mark);
        refuseWrongCell(cell);
        refuseUnsetMark(mark);
        return marks[mark].colors[cell];
    }

    public int difference(int mark) throws IndexOutOfBoundsException, IllegalStateException {
        refuseWrongMark(mark);
        refuseUnsetMark(mark);
        return changedCells(now.colors, marks[mark].colors);
    }

    public int rewind(int mark) throws IndexOutOfBoundsException, IllegalStateException {
        refuseWrongMark(mark);
        refuseUnsetMark(mark);
        int removed = log.size - marks[mark].size;
        log.goBack(marks[mark]);
        for (int other = 0; other < MARKS; other++) {
            if (marks[other].size > log.size) {
                marks[other].isSet = false;
            }
        }
        showNow();
        return removed;
    }

    // ---- questions

    public int color(int cell) throws IndexOutOfBoundsException {
        refuseWrongCell(cell);
        return now.colors[cell];
    }

    public int colorLater(int cell, int ticks) throws IndexOutOfBoundsException, IllegalArgumentException {
        refuseWrongCell(cell);
        if (ticks < 0 || ticks > LONGEST_PASS) {
            throw new IllegalArgumentException("ticks is not 0 to 1000");
        }
        supposed.show(log, tick + ticks, NONE);
        return supposed.colors[cell];
    }

    public int top(int cell) throws IndexOutOfBoundsException {
        refuseWrongCell(cell);
        return now.tops[cell];
    }

    public int count(int what) throws IllegalArgumentException {
        if (what < 0 || what >= COUNTS) {
            throw new IllegalArgumentException("what is not 0 to 9");
        }
        return boardProperty(what);
    }

    public int operation(int operation, int what) throws IndexOutOfBoundsException, IllegalArgumentException {
        refuseWrongOperation(operation);
        if (what < 0 || what >= OPERATION_PROPERTIES) {
            throw new IllegalArgumentException("what is not 0 to 10");
        }
        return operationProperty(operation, what);
    }

    public int ifSwitched(int operation) throws IndexOutOfBoundsException {
        refuseWrongOperation(operation);
        return changedBySwitching(operation);
    }

    public int user(int user, int what) throws IndexOutOfBoundsException, IllegalArgumentException {
        refuseWrongUser(user);
        if (what < 0 || what >= USER_PROPERTIES) {
            throw new IllegalArgumentException("what is not 0 to 4");
        }
        return userProperty(user, what);
    }

    public double meanStrength() {
        int sum = 0;
        int shown = 0;
        for (int cell = 0; cell < CELLS; cell++) {
            int number = now.tops[cell];
            if (log.contains(number)) {
                sum += log.entries[number].strengthAt(tick);
                shown++;
            }
        }
        return shown == 0 ? 0.0 : (double) sum / (double) shown;
    }

    public long digest() {
        long hash = 1933;
        for (int what = 0; what < COUNTS; what++) {
            hash = 31 * hash + boardProperty(what);
        }
        for (int cell = 0; cell < CELLS; cell++) {
            hash = 31 * hash + now.colors[cell];
        }
        for (int number = 0; number < log.size; number++) {
            for (int what = 0; what < OPERATION_PROPERTIES; what++) {
                hash = 31 * hash + operationProperty(number, what);
            }
        }
        for (int user = 0; user < USERS; user++) {
            for (int what = 0; what < USER_PROPERTIES; what++) {
                hash = 31 * hash + userProperty(user, what);
            }
        }
        for (int mark = 0; mark < MARKS; mark++) {
            if (marks[mark].isSet) {
                hash = 31 * hash + changedCells(now.colors, marks[mark].colors);
            }
        }
        hash = 31 * hash + buffer.length;
        for (int i = 0; i < buffer.length; i++) {
            hash = 31 * hash + buffer.codes[i];
        }
        return hash;
    }

    // ---- what the calls refuse

    private static void refuseWrongUser(int user) {
        if (user < 0 || user >= USERS) {
            throw new IndexOutOfBoundsException("the user does not exist");
        }
    }

    private static void refuseWrongLayer(int layer) {
        if (layer < 0 || layer >= LAYERS) {
            throw new IndexOutOfBoundsException("the layer does not exist");
        }
    }

    private static void refuseWrongCell(int cell) {
        if (cell < 0 || cell >= CELLS) {
            throw new IndexOutOfBoundsException("the cell does not exist");
        }
    }

    private static void refuseWrongMark(int mark) {
        if (mark < 0 || mark >= MARKS) {
            throw new IndexOutOfBoundsException("mark is not 0 to 5");
        }
    }

    private void refuseWrongOperation(int number) {
        if (!log.contains(number)) {
            throw new IndexOutOfBoundsException("the operation does not exist");
        }
    }

    private static void refuseWrongColor(int color) {
        if (color < 1 || color > COLORS) {
            throw new IllegalArgumentException("color is not 1 to 9");
        }
    }

    private void refuseWrongPath() {
        if (!buffer.isPath()) {
            throw new IllegalStateException("the buffer is not the complete text of a path");
        }
    }

    private void refuseFullLog() {
        if (log.size >= OPERATIONS) {
            throw new IllegalStateException("there are 60 operations");
        }
    }

    private void refuseUnsetMark(int mark) {
        if (!marks[mark].isSet) {
            throw new IllegalStateException("the mark is not set");
        }
    }

    // ---- steps of the calls

    private void showNow() {
        now.show(log, tick, NONE);
    }

    private void takeCellsFromBuffer(Operation added) {
        buffer.drawInto(added.cells);
        buffer.length = 0;
        leaveOutClosedCells(added);
    }

    private void leaveOutClosedCells(Operation added) {
        leases.collectClosed(added.owner, tick, scratch);
        added.cells.takeAway(scratch);
    }

    private int changedBySwitching(int number) {
        supposed.show(log, tick, number);
        return changedCells(now.colors, supposed.colors);
    }

    /** Both rows have a color for each cell. */
    private static int changedCells(int[] some, int[] others) {
        int changed = 0;
        for (int cell = 0; cell < CELLS; cell++) {
            if (some[cell] != others[cell]) {
                changed++;
            }
        }
        return changed;
    }

    // ---- the numbers that can be asked for

    private int boardProperty(int what) {
        switch (what) {
            case 0:
                return tick;
            case 1:
                return log.size;
            case 2:
                return log.activeOperations();
            case 3:
                return now.paintedCells();
            case 4:
                return differentColors();
            case 5:
                return leases.inForce(tick);
            case 6:
                // NONE owns no lease, so all leases are closed for it.
                leases.collectClosed(NONE, tick, scratch);
                return scratch.size();
            case 7:
                return marksSet();
            case 8:
                return now.hiddenOperations(log, tick);
            default:
                return colorRegions();
        }
    }

    private int differentColors() {
        int different = 0;
        for (int color = 1; color <= COLORS; color++) {
            now.collectColor(color, scratch);
            if (scratch.size() > 0) {
                different++;
            }
        }
        return different;
    }

    private int marksSet() {
        int set = 0;
        for (int mark = 0; mark < MARKS; mark++) {
            if (marks[mark].isSet) {
                set++;
            }
        }
        return set;
    }

    private int colorRegions() {
        int sum = 0;
        for (int color = 0; color <= COLORS; color++) {
            now.collectColor(color, scratch);
            sum += regions.parts(scratch, false);
        }
        return sum;
    }

    /** The number is that of an operation of the log. */
    private int operationProperty(int number, int what) {
        Operation asked = log.entries[number];
        switch (what) {
            case 0:
                return asked.sort;
            case 1:
                return asked.owner;
            case 2:
                return asked.layer;
            case 3:
                return asked.paint;
            case 4:
                return asked.born;
            case 5:
                return asked.active ? 1 : 0;
            case 6:
                return asked.cells.size();
            case 7:
                return now.left[number].size();
            case 8:
                return regions.parts(now.left[number], true);
            case 9:
                return now.onTop[number];
            default:
                return asked.strengthAt(tick);
        }
    }

    private int userProperty(int user, int what) {
        switch (what) {
            case 0:
                return log.operationsOf(user);
            case 1:
                return log.activeOf(user);
            case 2:
                return log.redoableOf(user);
            case 3:
                return cellsOf(user);
            default:
                return leases.inForceOf(user, tick);
        }
    }

    private int cellsOf(int user) {
        int cells = 0;
        for (int number = 0; number < log.size; number++) {
            if (log.entries[number].owner == user) {
                cells += now.onTop[number];
            }
        }
        return cells;
    }

    /** A set of cells: a bit for each cell, a number for each row of the board. */
    private static final class CellSet {
        final int[] rows = new int[SIDE];

        void becomeEmpty() {
            for (int y = 0; y < SIDE; y++) {
                rows[y] = 0;
            }
        }

        void becomeCopy(CellSet model) {
            for (int y = 0; y < SIDE; y++) {
                rows[y] = model.rows[y];
            }
        }

        void becomeRectangle(int first, int last) {
            becomeEmpty();
            int mask = columnsBetween(first, last);
            int bottom = Math.max(rowOf(first), rowOf(last));
            for (int y = Math.min(rowOf(first), rowOf(last)); y <= bottom; y++) {
                rows[y] = mask;
            }
        }

        boolean meetsRectangle(int first, int last) {
            int mask = columnsBetween(first, last);
            int bottom = Math.max(rowOf(first), rowOf(last));
            for (int y = Math.min(rowOf(first), rowOf(last)); y <= bottom; y++) {
                if ((rows[y] & mask) != 0) {
                    return true;
                }
            }
            return false;
        }

        private static int columnsBetween(int first, int last) {
            int leftmost = Math.min(columnOf(first), columnOf(last));
            int rightmost = Math.max(columnOf(first), columnOf(last));
            return (1 << (rightmost + 1)) - (1 << leftmost);
        }

        /** Here and below, the masks keep each row and column on the board for every number. */
        static int rowOf(int cell) {
            return (cell >> 4) & 15;
        }

        static int columnOf(int cell) {
            return cell & 15;
        }

        boolean contains(int cell) {
            return ((rows[(cell >> 4) & 15] >> (cell & 15)) & 1) == 1;
        }

        void include(int cell) {
            rows[(cell >> 4) & 15] |= 1 << (cell & 15);
        }

        void exclude(int cell) {
            rows[(cell >> 4) & 15] &= ~(1 << (cell & 15));
        }

        void addAll(CellSet added) {
            for (int y = 0; y < SIDE; y++) {
                rows[y] |= added.rows[y];
            }
        }

        void takeAway(CellSet taken) {
            for (int y = 0; y < SIDE; y++) {
                rows[y] &= ~taken.rows[y];
            }
        }

        boolean meets(CellSet other) {
            for (int y = 0; y < SIDE; y++) {
                if ((rows[y] & other.rows[y]) != 0) {
                    return true;
                }
            }
            return false;
        }

        int size() {
            int size = 0;
            for (int y = 0; y < SIDE; y++) {
                size += Integer.bitCount(rows[y]);
            }
            return size;
        }
    }

    /** The buffer, and the points of the path that was read from it last. */
    private static final class PathText {
        final int[] codes = new int[BUFFER];
        int length = 0;
        private final int[] columns = new int[POINTS];
        private final int[] rows = new int[POINTS];
        /** Where reading stands: the point, whether in its row, and the number so far, NONE before it. */
        private int point = 0;
        private boolean inRow = false;
        private int number = NONE;

        /** Answers the index of the first syntax error, or the length. */
        int readToError() {
            point = 0;
            inRow = false;
            number = NONE;
            for (int i = 0; i < length; i++) {
                if (!takes(codes[i])) {
                    return i;
                }
            }
            return length;
        }

        boolean isPath() {
            return readToError() == length && inRow && number != NONE;
        }

        private boolean takes(int code) {
            if (code >= '0' && code <= '9') {
                return takesDigit(code - '0');
            }
            if (number == NONE) {
                return false;
            }
            if (code == ',' && !inRow) {
                inRow = true;
                number = NONE;
                return true;
            }
            if (code == '-' && inRow && point + 1 < POINTS) {
                point++;
                inRow = false;
                number = NONE;
                return true;
            }
            return false;
        }

        private boolean takesDigit(int digit) {
            if (number == NONE) {
                number = digit;
            } else if (number == 1 && 10 + digit < SIDE) {
                number = 10 + digit;
            } else {
                return false;
            }
            if (inRow) {
                rows[point] = number;
            } else {
                columns[point] = number;
            }
            return true;
        }

        /** Draws the path that isPath has read. */
        void drawInto(CellSet cells) {
            cells.becomeEmpty();
            cells.include(SIDE * rows[0] + columns[0]);
            for (int i = 1; i <= point; i++) {
                drawLine(i - 1, i, cells);
            }
        }

        private void drawLine(int from, int to, CellSet cells) {
            int width = columns[to] - columns[from];
            int height = rows[to] - rows[from];
            int n = Math.max(Math.abs(width), Math.abs(height));
            for (int k = 0; k <= n; k++) {
                int x = columns[from] + roundedQuotient(k * width, n);
                int y = rows[from] + roundedQuotient(k * height, n);
                cells.include(SIDE * y + x);
            }
        }

        /** Halves are rounded away from zero; n = 0 is a line of one cell, which goes nowhere. */
        private static int roundedQuotient(int value, int n) {
            if (n <= 0) {
                return 0;
            }
            int size = (2 * Math.abs(value) + n) / (2 * n);
            return value < 0 ? -size : size;
        }
    }

    /** A stroke, a fill or an erasure; paint is the color, for an erasure its kind. */
    private static final class Operation {
        int sort = STROKE;
        int owner = 0;
        int layer = 0;
        int paint = 0;
        int fade = 0;
        int born = 0;
        boolean active = false;
        /** The number of the undo that may be taken back; 0 if it can't be redone. */
        int undoneBy = 0;
        final CellSet cells = new CellSet();

        boolean hasVanished(int tick) {
            return fade > 0 && tick >= born + fade;
        }

        int strengthAt(int tick) {
            if (sort == ERASURE || hasVanished(tick)) {
                return 0;
            }
            return fade <= 0 ? 100 : 100 * (born + fade - tick) / fade;
        }
    }

    /** The operations in their order; the entries from size on are rows for later ones. */
    private static final class Log {
        final Operation[] entries = new Operation[OPERATIONS];
        int size = 0;
        private int undos = 0;

        Log() {
            for (int number = 0; number < OPERATIONS; number++) {
                entries[number] = new Operation();
            }
        }

        boolean contains(int number) {
            return number >= 0 && number < size;
        }

        /** Adds an operation without color and cells to a log that is not full. */
        Operation begin(int sort, int owner, int layer, int tick) {
            forgetRedoOf(owner);
            Operation added = entries[size];
            size++;
            added.sort = sort;
            added.owner = owner;
            added.layer = layer;
            added.paint = 0;
            added.fade = 0;
            added.born = tick;
            added.active = true;
            added.undoneBy = 0;
            return added;
        }

        private void forgetRedoOf(int owner) {
            for (int number = 0; number < size; number++) {
                if (entries[number].owner == owner) {
                    entries[number].undoneBy = 0;
                }
            }
        }

        int latestActive(int owner) {
            int latest = NONE;
            for (int number = 0; number < size; number++) {
                if (entries[number].active && entries[number].owner == owner) {
                    latest = number;
                }
            }
            return latest;
        }

        int lastUndone(int owner) {
            int last = NONE;
            int lastUndo = 0;
            for (int number = 0; number < size; number++) {
                Operation entry = entries[number];
                if (entry.owner == owner && entry.undoneBy > lastUndo) {
                    last = number;
                    lastUndo = entry.undoneBy;
                }
            }
            return last;
        }

        void switchOff(int number) {
            undos++;
            entries[number].active = false;
            entries[number].undoneBy = undos;
        }

        void switchOn(int number) {
            entries[number].active = true;
            entries[number].undoneBy = 0;
        }

        /** The mark is set, so it keeps no more operations than the log has. */
        void goBack(Mark mark) {
            size = mark.size;
            for (int number = 0; number < size; number++) {
                entries[number].active = mark.active[number];
                entries[number].undoneBy = 0;
            }
        }

        int activeOperations() {
            int found = 0;
            for (int owner = 0; owner < USERS; owner++) {
                found += activeOf(owner);
            }
            return found;
        }

        int operationsOf(int owner) {
            int found = 0;
            for (int number = 0; number < size; number++) {
                if (entries[number].owner == owner) {
                    found++;
                }
            }
            return found;
        }

        int activeOf(int owner) {
            int found = 0;
            for (int number = 0; number < size; number++) {
                if (entries[number].owner == owner && entries[number].active) {
                    found++;
                }
            }
            return found;
        }

        int redoableOf(int owner) {
            int found = 0;
            for (int number = 0; number < size; number++) {
                if (entries[number].owner == owner && entries[number].undoneBy > 0) {
                    found++;
                }
            }
            return found;
        }
    }

    /** The leases, in slots; a slot whose end has come is free. */
    private static final class Leases {
        final CellSet[] areas = new CellSet[LEASES];
        private final int[] owners = new int[LEASES];
        private final int[] ends = new int[LEASES];

        Leases() {
            for (int slot = 0; slot < LEASES; slot++) {
                areas[slot] = new CellSet();
            }
        }

        int freeSlot(int tick) {
            for (int slot = 0; slot < LEASES; slot++) {
                if (tick >= ends[slot]) {
                    return slot;
                }
            }
            return NONE;
        }

        void begin(int slot, int owner, int end) {
            owners[slot] = owner;
            ends[slot] = end;
        }

        void endAll() {
            for (int slot = 0; slot < LEASES; slot++) {
                ends[slot] = 0;
            }
        }

        int endAllOf(int owner, int tick) {
            int ended = 0;
            for (int slot = 0; slot < LEASES; slot++) {
                if (tick < ends[slot] && owners[slot] == owner) {
                    ends[slot] = 0;
                    ended++;
                }
            }
            return ended;
        }

        int inForce(int tick) {
            int found = 0;
            for (int slot = 0; slot < LEASES; slot++) {
                if (tick < ends[slot]) {
                    found++;
                }
            }
            return found;
        }

        int inForceOf(int owner, int tick) {
            int found = 0;
            for (int slot = 0; slot < LEASES; slot++) {
                if (tick < ends[slot] && owners[slot] == owner) {
                    found++;
                }
            }
            return found;
        }

        int lowestOwner(int cell, int tick) {
            int lowest = NONE;
            for (int slot = 0; slot < LEASES; slot++) {
                if (tick < ends[slot] && areas[slot].contains(cell)
                        && (lowest == NONE || owners[slot] < lowest)) {
                    lowest = owners[slot];
                }
            }
            return lowest;
        }

        void collectClosed(int user, int tick, CellSet closed) {
            closed.becomeEmpty();
            for (int slot = 0; slot < LEASES; slot++) {
                if (tick < ends[slot] && owners[slot] != user) {
                    closed.addAll(areas[slot]);
                }
            }
        }
    }

    /** What a mark keeps; the picture itself is kept, so that its replay needs no computing. */
    private static final class Mark {
        boolean isSet = false;
        int size = 0;
        final boolean[] active = new boolean[OPERATIONS];
        final int[] colors = new int[CELLS];

        void keep(Log log, Scene shown) {
            isSet = true;
            size = log.size;
            for (int number = 0; number < size; number++) {
                active[number] = log.entries[number].active;
            }
            for (int cell = 0; cell < CELLS; cell++) {
                colors[cell] = shown.colors[cell];
            }
        }
    }

    /** What is left of the operations of a log, and the picture that they give at a tick. */
    private static final class Scene {
        final CellSet[] left = new CellSet[OPERATIONS];
        final int[] tops = new int[CELLS];
        final int[] colors = new int[CELLS];
        /** For each operation the number of cells where it is on top. */
        final int[] onTop = new int[OPERATIONS];

        Scene() {
            for (int number = 0; number < OPERATIONS; number++) {
                left[number] = new CellSet();
            }
            for (int cell = 0; cell < CELLS; cell++) {
                tops[cell] = NONE;
            }
        }

        /** The operation with the number switched, which may be NONE, is taken as if undone or redone. */
        void show(Log log, int tick, int switched) {
            for (int number = 0; number < log.size; number++) {
                left[number].becomeEmpty();
                if (log.entries[number].active != (number == switched)) {
                    takeEffect(log, number);
                }
            }
            becomeBlank();
            for (int layer = 0; layer < LAYERS; layer++) {
                for (int number = 0; number < log.size; number++) {
                    Operation shown = log.entries[number];
                    if (shown.layer == layer && !shown.hasVanished(tick)) {
                        paint(number, shown.paint);
                    }
                }
            }
            countTops();
        }

        private void takeEffect(Log log, int number) {
            Operation effective = log.entries[number];
            if (effective.sort != ERASURE) {
                left[number].becomeCopy(effective.cells);
                return;
            }
            for (int earlier = 0; earlier < number; earlier++) {
                if (log.entries[earlier].layer <= effective.layer) {
                    eraseFrom(earlier, log.entries[earlier].owner, effective);
                }
            }
        }

        /** Erasures and undone operations have no cells left, so nothing is taken from them. */
        private void eraseFrom(int number, int owner, Operation erasure) {
            if (erasure.paint == REMOVING) {
                if (left[number].meets(erasure.cells)) {
                    left[number].becomeEmpty();
                }
            } else if (erasure.paint == CUTTING || owner == erasure.owner) {
                left[number].takeAway(erasure.cells);
            }
        }

        private void becomeBlank() {
            for (int cell = 0; cell < CELLS; cell++) {
                tops[cell] = NONE;
                colors[cell] = 0;
            }
        }

        private void paint(int number, int color) {
            for (int y = 0; y < SIDE; y++) {
                // Most operations have cells in a few rows only.
                if (left[number].rows[y] != 0) {
                    paintRow(number, color, y);
                }
            }
        }

        private void paintRow(int number, int color, int y) {
            for (int x = 0; x < SIDE; x++) {
                int cell = SIDE * y + x;
                if (left[number].contains(cell)) {
                    tops[cell] = number;
                    colors[cell] = color;
                }
            }
        }

        private void countTops() {
            for (int number = 0; number < OPERATIONS; number++) {
                onTop[number] = 0;
            }
            for (int cell = 0; cell < CELLS; cell++) {
                int number = tops[cell];
                if (number >= 0 && number < OPERATIONS) {
                    onTop[number]++;
                }
            }
        }

        int paintedCells() {
            int painted = 0;
            for (int cell = 0; cell < CELLS; cell++) {
                if (tops[cell] != NONE) {
                    painted++;
                }
            }
            return painted;
        }

        int hiddenOperations(Log log, int tick) {
            int hidden = 0;
            for (int number = 0; number < log.size; number++) {
                if (onTop[number] == 0 && left[number].size() > 0 && !log.entries[number].hasVanished(tick)) {
                    hidden++;
                }
            }
            return hidden;
        }

        void collectColor(int color, CellSet found) {
            found.becomeEmpty();
            for (int cell = 0; cell < CELLS; cell++) {
                if (colors[cell] == color) {
                    found.include(cell);
                }
            }
        }
    }

    /** Goes through sets of cells by steps between neighbors or near cells. */
    private static final class Regions {
        /** The cells that are still to be reached. */
        private final CellSet rest = new CellSet();
        private final int[] queue = new int[CELLS];
        private int queued = 0;

        /** The number of parts of a set between which no step leads. */
        int parts(CellSet cells, boolean diagonal) {
            rest.becomeCopy(cells);
            int parts = 0;
            for (int cell = 0; cell < CELLS; cell++) {
                if (rest.contains(cell)) {
                    spread(cell, diagonal);
                    parts++;
                }
            }
            return parts;
        }

        /** Collects the cells of a set that can be reached from a cell of it. */
        void reach(int start, CellSet cells, CellSet reached) {
            rest.becomeCopy(cells);
            spread(start, false);
            reached.becomeEmpty();
            for (int i = 0; i < queued; i++) {
                reached.include(queue[i]);
            }
        }

        private void spread(int start, boolean diagonal) {
            queued = 0;
            enqueue(CellSet.columnOf(start), CellSet.rowOf(start));
            for (int i = 0; i < queued && i < CELLS; i++) {
                int x = CellSet.columnOf(queue[i]);
                int y = CellSet.rowOf(queue[i]);
                enqueue(x, y - 1);
                enqueue(x - 1, y);
                enqueue(x + 1, y);
                enqueue(x, y + 1);
                if (diagonal) {
                    enqueue(x - 1, y - 1);
                    enqueue(x + 1, y - 1);
                    enqueue(x - 1, y + 1);
                    enqueue(x + 1, y + 1);
                }
            }
        }

        private void enqueue(int x, int y) {
            if (x < 0 || x >= SIDE || y < 0 || y >= SIDE || queued >= CELLS) {
                return;
            }
            int cell = SIDE * y + x;
            if (rest.contains(cell)) {
                rest.exclude(cell);
                queue[queued] = cell;
                queued++;
            }
        }
    }
}
