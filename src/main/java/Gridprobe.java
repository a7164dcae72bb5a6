import java.util.NoSuchElementException;

public final class Gridprobe {
    public static final int NONE = -1;
    public static final int LEAST = 0, MOST = 1, SAME = 2, RISING = 3;
    public static final int UNTRIED = 0, PASSED = 1, FAILED = 2;

    private static final int CELLS = 16;
    private static final int ALL_CELLS = 65535;
    private static final int MOST_PARTS = 12;
    private static final int OPERATIONS = 12;
    private static final int MOST_PROPERTIES = 4;
    private static final int FARTHEST = 1000000;
    private static final int OWNERS = 6;
    private static final int SEEDS = 7875;
    private static final int MOST_ROWS = 20;
    private static final int MOST_TIMES_SMALLER = 60;
    private static final int MOST_WAIVED_DAYS = 30;
    private static final int MOST_DAYS_PASSED = 100;
    private static final int LAST_DAY = 10000;

    // Above every int, so that it can stand where a value of a cell stands.
    private static final long FAULT = 4294967296L;

    private final Formula draft;
    private final Sheet sheet;
    private final PropertyList[] told;
    private final Trials trials;
    private final LockDesk desk;

    public Gridprobe() {
        draft = new Formula();
        sheet = new Sheet();
        told = new PropertyList[CELLS];
        for (int cell = 0; cell < CELLS; cell++) {
            told[cell] = new PropertyList();
        }
        trials = new Trials();
        desk = new LockDesk();
    }

    // ---- the draft of a formula

    public int number(int number) throws IllegalStateException {
        if (!draft.put(Formula.NUMBER, number)) {
            throw new IllegalStateException("the draft has 12 parts");
        }
        return draft.formulas;
    }

    public int cell(int cell) throws IndexOutOfBoundsException, IllegalStateException {
        needCell(cell);
        if (!draft.put(Formula.CELL, cell)) {
            throw new IllegalStateException("the draft has 12 parts");
        }
        return draft.formulas;
    }

    public int apply(int operation) throws IllegalArgumentException, IllegalStateException {
        if (operation < 0 || operation >= OPERATIONS) {
            throw new IllegalArgumentException("no such operation");
        }
        if (!draft.put(operation, 0)) {
            throw new IllegalStateException("the draft has fewer than two formulas, or 12 parts");
        }
        return draft.formulas;
    }

    public int wipe() {
        int had = draft.parts;
        draft.clear();
        return had;
    }

    public int enter(int cell) throws IndexOutOfBoundsException, IllegalStateException {
        needCell(cell);
        if (draft.formulas != 1) {
            throw new IllegalStateException("the draft has not just one formula");
        }
        if (sheet.wouldRestOnItself(cell, draft)) {
            throw new IllegalStateException("a cell would rest on itself");
        }
        sheet.makeFormula(cell, draft);
        draft.clear();
        return followChange(cell);
    }

    // ---- inputs, properties, owners

    public int input(int cell, int low, int high) throws IndexOutOfBoundsException, IllegalArgumentException {
        needCell(cell);
        if (low < -FARTHEST || low > FARTHEST || high < low || high > FARTHEST) {
            throw new IllegalArgumentException("low or high is out of range");
        }
        sheet.makeInput(cell, low, high);
        return followChange(cell);
    }

    public int set(int cell, int value)
            throws IndexOutOfBoundsException, IllegalStateException, IllegalArgumentException {
        needCell(cell);
        if (!sheet.isInput(cell)) {
            throw new IllegalStateException("the cell has a formula");
        }
        if (value < sheet.lows[cell] || value > sheet.highs[cell]) {
            throw new IllegalArgumentException("value is not in the cell's range");
        }
        int had = sheet.values[cell];
        sheet.values[cell] = value;
        return had;
    }

    public int tell(int cell, int kind, int n)
            throws IndexOutOfBoundsException, IllegalArgumentException, IllegalStateException {
        needCell(cell);
        if (kind == SAME || kind == RISING) {
            needCell(n);
        }
        if (kind < LEAST || kind > RISING) {
            throw new IllegalArgumentException("no such kind");
        }
        if (!told[cell].add(kind, n)) {
            throw new IllegalStateException("the cell has 4 properties");
        }
        trials.untry(1 << cell);
        return told[cell].count;
    }

    public int drop(int cell) throws IndexOutOfBoundsException {
        needCell(cell);
        int had = told[cell].count;
        told[cell].count = 0;
        return had;
    }

    public int own(int cell, int owner) throws IndexOutOfBoundsException, IllegalArgumentException {
        needCell(cell);
        if (owner < 0 || owner >= OWNERS) {
            throw new IllegalArgumentException("no such owner");
        }
        int had = desk.owners[cell];
        desk.owners[cell] = owner;
        return had;
    }

    // ---- trials and waivers

    public int attempt(int cell, int seed, int rows) throws IndexOutOfBoundsException, IllegalArgumentException {
        needCell(cell);
        if (seed < 0 || seed >= SEEDS || rows < 1 || rows > MOST_ROWS) {
            throw new IllegalArgumentException("seed or rows is out of range");
        }
        boolean wasFailed = has(trials.failed, cell);
        int lockedAhead = lockedCells();
        int failedRow = trials.findFailedRow(sheet, told[cell], cell, seed, rows);
        if (failedRow != NONE) {
            int times = trials.makeSmaller(sheet, told[cell], cell);
            trials.keepFailed(cell, times, sheet.inputs);
            return failedRow;
        }
        trials.keepPassed(cell);
        if (wasFailed) {
            desk.keepUnlocked(sheet, cell, lockedAhead & ~lockedCells());
        }
        return NONE;
    }

    public int waive(int cell, int owner, int days)
            throws IndexOutOfBoundsException, IllegalArgumentException, IllegalStateException {
        needCell(cell);
        if (owner != desk.owners[cell] || days < 0 || days > MOST_WAIVED_DAYS) {
            throw new IllegalArgumentException("owner is not the cell's owner, or days is out of range");
        }
        if (!has(lockedCells(), cell)) {
            throw new IllegalStateException("the cell is not locked");
        }
        desk.lastDays[cell] = desk.day + days;
        return Integer.bitCount(lockedCells());
    }

    public int pass(int days) throws IllegalArgumentException, IllegalStateException {
        if (days < 1 || days > MOST_DAYS_PASSED) {
            throw new IllegalArgumentException("days is out of range");
        }
        if (desk.day + days > LAST_DAY) {
            throw new IllegalStateException("today would be above 10000");
        }
        desk.day += days;
        return Integer.bitCount(lockedCells());
    }

    // ---- what is asked: cells

    public int drafted() {
        return draft.parts;
    }

    public int today() {
        return desk.day;
    }

    public int reads(int cell) throws IndexOutOfBoundsException {
        needCell(cell);
        return sheet.readCells[cell];
    }

    public int rests(int cell) throws IndexOutOfBoundsException {
        needCell(cell);
        return sheet.restedOn[cell];
    }

    public int show(int cell) throws IndexOutOfBoundsException, IllegalStateException, ArithmeticException {
        needCell(cell);
        if (has(lockedCells(), cell)) {
            throw new IllegalStateException("the cell is locked");
        }
        long value = sheet.reckon(cell, sheet.values);
        if (value == FAULT) {
            throw new ArithmeticException("the value is a fault");
        }
        return (int) value;
    }

    // ---- what is asked: trials

    public int verdict(int cell) throws IndexOutOfBoundsException {
        needCell(cell);
        if (has(trials.failed, cell)) {
            return FAILED;
        }
        return has(trials.passed, cell) ? PASSED : UNTRIED;
    }

    public int failing(int cell) throws IndexOutOfBoundsException {
        needCell(cell);
        return has(trials.failed, cell) ? trials.failedBy[cell] : NONE;
    }

    public int example(int cell, int input) throws IndexOutOfBoundsException, NoSuchElementException {
        needCell(cell);
        needCell(input);
        if (!has(trials.failed, cell) || !has(trials.exampleInputs[cell], input)) {
            throw new NoSuchElementException("no example, or no input then");
        }
        return trials.examples[cell][input];
    }

    public int smaller(int cell) throws IndexOutOfBoundsException {
        needCell(cell);
        return has(trials.failed, cell) ? trials.timesSmaller[cell] : NONE;
    }

    // ---- what is asked: locks

    public boolean isLocked(int cell) throws IndexOutOfBoundsException {
        needCell(cell);
        return has(lockedCells(), cell);
    }

    public boolean isLockedByWays(int cell) throws IndexOutOfBoundsException {
        needCell(cell);
        return (sheet.reachedFrom(cell, desk.waivedCells()) & trials.failed) != 0;
    }

    public boolean isMarked(int cell) throws IndexOutOfBoundsException {
        needCell(cell);
        return ((sheet.restedOn[cell] | 1 << cell) & trials.failed) != 0;
    }

    public int locked() {
        return Integer.bitCount(lockedCells());
    }

    public int unlocked() {
        return desk.unlockedCount;
    }

    public int unlockedAt(int index) throws IndexOutOfBoundsException {
        if (index < 0 || index >= desk.unlockedCount || index >= CELLS) {
            throw new IndexOutOfBoundsException("not so many cells were unlocked");
        }
        return desk.row[index];
    }

    // ---- what several calls need

    private static void needCell(int cell) {
        if (cell < 0 || cell >= CELLS) {
            throw new IndexOutOfBoundsException("no such cell");
        }
    }

    // Tests the cell too, so that one found in a set can be used as an index.
    private static boolean has(int set, int cell) {
        return cell >= 0 && cell < CELLS && (set >> cell & 1) != 0;
    }

    private int lockedCells() {
        return sheet.lockedCells(trials.failed, desk.waivedCells());
    }

    private int followChange(int cell) {
        desk.lastDays[cell] = NONE;
        return trials.untry(sheet.cellsRestingOn(cell) | 1 << cell);
    }

    /** A formula or the draft of some: parts in the order in which they were put. */
    private static final class Formula {
        // The kinds of parts beside the operations, whose numbers are below these.
        static final int NUMBER = 12, CELL = 13;

        final int[] kinds = new int[MOST_PARTS];
        final int[] numbers = new int[MOST_PARTS];
        final int[] stack = new int[MOST_PARTS];
        int parts;
        int formulas;

        boolean put(int kind, int number) {
            boolean joins = kind < OPERATIONS;
            if (parts >= MOST_PARTS || (joins && formulas < 2)) {
                return false;
            }
            kinds[parts] = kind;
            numbers[parts] = number;
            parts++;
            formulas += joins ? -1 : 1;
            return true;
        }

        void clear() {
            parts = 0;
            formulas = 0;
        }

        void copyFrom(Formula other) {
            System.arraycopy(other.kinds, 0, kinds, 0, MOST_PARTS);
            System.arraycopy(other.numbers, 0, numbers, 0, MOST_PARTS);
            parts = other.parts;
            formulas = other.formulas;
        }

        int readSet() {
            int set = 0;
            for (int i = 0; i < parts && i < MOST_PARTS; i++) {
                if (kinds[i] == CELL) {
                    set |= 1 << numbers[i];
                }
            }
            return set;
        }

        long reckon(long[] values) {
            int depth = 0;
            for (int i = 0; i < parts && i < MOST_PARTS; i++) {
                long value;
                if (kinds[i] >= OPERATIONS) {
                    value = leaf(kinds[i], numbers[i], values);
                } else if (depth >= 2 && depth <= MOST_PARTS) {
                    depth -= 2;
                    value = operate(kinds[i], stack[depth], stack[depth + 1]);
                } else {
                    return FAULT;
                }
                // What has a fault in it is a fault, so nothing after the first one matters.
                if (value == FAULT || depth >= MOST_PARTS) {
                    return FAULT;
                }
                stack[depth] = (int) value;
                depth++;
            }
            return stack[0];
        }

        private static long leaf(int kind, int number, long[] values) {
            if (kind == NUMBER) {
                return number;
            }
            return number >= 0 && number < values.length ? values[number] : FAULT;
        }

        private static long operate(int operation, int first, int second) {
            switch (operation) {
                case 0: return first + second;
                case 1: return first - second;
                case 2: return first * second;
                // Divided as ints, so that the one quotient that is too great goes round.
                case 3: return second == 0 ? FAULT : first / second;
                case 4: return first < second ? first : second;
                case 5: return first > second ? first : second;
                case 6: return first < second ? 1 : 0;
                case 7: return first == second ? 1 : 0;
                case 8: return first & second;
                case 9: return first | second;
                // The last five bits are the remainder by 32, 0 or more.
                case 10: return first << (second & 31);
                default: return first >> (second & 31);
            }
        }
    }

    /** The cells: what is in them, and what they read. Sets of cells are bits of an int. */
    private static final class Sheet {
        final Formula[] formulas = new Formula[CELLS];
        final int[] lows = new int[CELLS];
        final int[] highs = new int[CELLS];
        final int[] values = new int[CELLS];
        final int[] readCells = new int[CELLS];
        final int[] restedOn = new int[CELLS];
        // Each cell stands behind all that it reads, so that one walk reckons or spreads locks.
        final int[] order = new int[CELLS];
        final long[] reckoned = new long[CELLS];
        int inputs = ALL_CELLS;

        Sheet() {
            for (int cell = 0; cell < CELLS; cell++) {
                formulas[cell] = new Formula();
                order[cell] = cell;
            }
        }

        boolean isInput(int cell) {
            return has(inputs, cell);
        }

        void makeInput(int cell, int low, int high) {
            inputs |= 1 << cell;
            lows[cell] = low;
            highs[cell] = high;
            values[cell] = low;
            readCells[cell] = 0;
            arrange();
        }

        void makeFormula(int cell, Formula draft) {
            inputs &= ~(1 << cell);
            formulas[cell].copyFrom(draft);
            readCells[cell] = draft.readSet();
            arrange();
        }

        boolean wouldRestOnItself(int cell, Formula draft) {
            return has(restedOnThrough(draft.readSet()), cell);
        }

        private int restedOnThrough(int read) {
            int set = read;
            for (int cell = 0; cell < CELLS; cell++) {
                if (has(read, cell)) {
                    set |= restedOn[cell];
                }
            }
            return set;
        }

        private void arrange() {
            int placed = 0;
            int count = 0;
            for (int round = 0; round < CELLS && count < CELLS; round++) {
                for (int cell = 0; cell < CELLS; cell++) {
                    if (count < CELLS && !has(placed, cell) && (readCells[cell] & ~placed) == 0) {
                        order[count] = cell;
                        count++;
                        placed |= 1 << cell;
                        restedOn[cell] = restedOnThrough(readCells[cell]);
                    }
                }
            }
        }

        int cellsRestingOn(int cell) {
            int set = 0;
            for (int reader = 0; reader < CELLS; reader++) {
                if (has(restedOn[reader], cell)) {
                    set |= 1 << reader;
                }
            }
            return set;
        }

        long reckon(int cell, int[] row) {
            if (cell < 0 || cell >= CELLS) {
                return FAULT;
            }
            int needed = restedOn[cell] | 1 << cell;
            for (int i = 0; i < CELLS; i++) {
                int at = order[i];
                if (has(needed, at)) {
                    reckoned[at] = isInput(at) ? row[at] : formulas[at].reckon(reckoned);
                }
            }
            return reckoned[cell];
        }

        int lockedCells(int failed, int waived) {
            int locked = 0;
            for (int i = 0; i < CELLS; i++) {
                int at = order[i];
                if (has(~waived, at) && (has(failed, at) || (readCells[at] & locked) != 0)) {
                    locked |= 1 << at;
                }
            }
            return locked;
        }

        int reachedFrom(int cell, int waived) {
            int reached = 1 << cell & ~waived;
            // A way has no more steps than there are cells.
            for (int step = 0; step < CELLS; step++) {
                for (int at = 0; at < CELLS; at++) {
                    if (has(reached, at)) {
                        reached |= readCells[at] & ~waived;
                    }
                }
            }
            return reached;
        }

        /** Puts the cell and all that rest on it into the row, nearer readers first; returns how many. */
        int lineUpReaders(int cell, int[] row) {
            row[0] = cell;
            int count = 1;
            int inRow = 1 << cell;
            for (int i = 0; i < count && i < CELLS; i++) {
                for (int reader = 0; reader < CELLS; reader++) {
                    if (count < CELLS && has(readCells[reader], row[i]) && !has(inRow, reader)) {
                        row[count] = reader;
                        count++;
                        inRow |= 1 << reader;
                    }
                }
            }
            return count;
        }
    }

    /** The properties of one cell, in the order told. */
    private static final class PropertyList {
        final int[] kinds = new int[MOST_PROPERTIES];
        final int[] numbers = new int[MOST_PROPERTIES];
        int count;

        boolean add(int kind, int n) {
            if (count >= MOST_PROPERTIES) {
                return false;
            }
            kinds[count] = kind;
            numbers[count] = n;
            count++;
            return true;
        }

        int firstBroken(Sheet sheet, int cell, int[] row) {
            for (int at = 0; at < count; at++) {
                if (!holds(at, sheet, cell, row)) {
                    return at;
                }
            }
            return NONE;
        }

        boolean holds(int at, Sheet sheet, int cell, int[] row) {
            if (at < 0 || at >= count || at >= MOST_PROPERTIES) {
                return true;
            }
            long value = sheet.reckon(cell, row);
            if (value == FAULT) {
                return false;
            }
            int n = numbers[at];
            switch (kinds[at]) {
                case LEAST: return value >= n;
                case MOST: return value <= n;
                case SAME: return value == sheet.reckon(n, row);
                default: break;
            }
            if (!sheet.isInput(n) || row[n] >= sheet.highs[n]) {
                return true;
            }
            row[n]++;
            long next = sheet.reckon(cell, row);
            row[n]--;
            return next != FAULT && next >= value;
        }
    }

    /** Makes the rows of trials, and keeps what came of them for each cell. */
    private static final class Trials {
        final int[] row = new int[CELLS];
        final int[] failedBy = new int[CELLS];
        final int[] timesSmaller = new int[CELLS];
        final int[] exampleInputs = new int[CELLS];
        final int[][] examples = new int[CELLS][CELLS];
        int passed;
        int failed;
        int drawn;
        int broken;

        int untry(int cells) {
            int changed = passed & cells;
            passed &= ~cells;
            return Integer.bitCount(changed);
        }

        /** Leaves the row that failed in row, and the property by which it did in broken. */
        int findFailedRow(Sheet sheet, PropertyList told, int cell, int seed, int rows) {
            drawn = seed;
            for (int at = 0; at < rows; at++) {
                fillRow(at, sheet);
                broken = told.firstBroken(sheet, cell, row);
                if (broken != NONE) {
                    return at;
                }
            }
            return NONE;
        }

        void keepPassed(int cell) {
            failed &= ~(1 << cell);
            passed |= 1 << cell;
        }

        void keepFailed(int cell, int times, int inputs) {
            passed &= ~(1 << cell);
            failed |= 1 << cell;
            failedBy[cell] = broken;
            timesSmaller[cell] = times;
            exampleInputs[cell] = inputs;
            System.arraycopy(row, 0, examples[cell], 0, CELLS);
        }

        private void fillRow(int at, Sheet sheet) {
            for (int input = 0; input < CELLS; input++) {
                if (sheet.isInput(input)) {
                    row[input] = rowValue(at, sheet.lows[input], sheet.highs[input]);
                }
            }
        }

        private int rowValue(int at, int low, int high) {
            if (at == 0) {
                return low;
            }
            if (at == 1) {
                return high;
            }
            drawn = Math.floorMod(421 * drawn + 1663, SEEDS);
            int size = high - low + 1;
            return size < 1 ? low : low + drawn % size;
        }

        /** Makes the row that failed smaller; returns how many times. */
        int makeSmaller(Sheet sheet, PropertyList told, int cell) {
            for (int times = 0; times < MOST_TIMES_SMALLER; times++) {
                if (!stepSmaller(sheet, told, cell)) {
                    return times;
                }
            }
            return MOST_TIMES_SMALLER;
        }

        private boolean stepSmaller(Sheet sheet, PropertyList told, int cell) {
            for (int input = 0; input < CELLS; input++) {
                if (!sheet.isInput(input)) {
                    continue;
                }
                for (int less = row[input] - sheet.lows[input]; less > 0; less /= 2) {
                    row[input] -= less;
                    if (!told.holds(broken, sheet, cell, row)) {
                        return true;
                    }
                    row[input] += less;
                }
            }
            return false;
        }
    }

    /** Owners, waivers and days, and what the last mended cell unlocked. */
    private static final class LockDesk {
        final int[] owners = new int[CELLS];
        // NONE where there is no waiver: it lies ahead of every day.
        final int[] lastDays = new int[CELLS];
        final int[] row = new int[CELLS];
        int day;
        int unlockedCount;

        LockDesk() {
            for (int cell = 0; cell < CELLS; cell++) {
                lastDays[cell] = NONE;
            }
        }

        int waivedCells() {
            int set = 0;
            for (int cell = 0; cell < CELLS; cell++) {
                if (lastDays[cell] >= day) {
                    set |= 1 << cell;
                }
            }
            return set;
        }

        void keepUnlocked(Sheet sheet, int cell, int freed) {
            int length = sheet.lineUpReaders(cell, row);
            unlockedCount = 0;
            for (int i = 0; i < length && i < CELLS; i++) {
                // What is kept never runs ahead of what is read, so one row serves for both.
                int at = row[i];
                if (has(freed, at)) {
                    row[unlockedCount] = at;
                    unlockedCount++;
                }
            }
        }
    }
}
