import java.util.Arrays;
import java.util.NoSuchElementException;

/**
 * A sheet of metrics: cells have formulas that refer to other cells; values are found anew just
 * where something has changed; what-ifs are opened as layers and dropped again; and an input is
 * sought with which a cell reaches a target.
 */
public final class GoalseekOffice {
    /** There is none. */
    public static final int NONE = -1;

    private static final int CELLS = 30;
    private static final int MOST_SIGNS = 15;
    private static final int MOST_LAYERS = 4;
    private static final int GREATEST_NUMBER = 999999;
    private static final int GREATEST_TARGET = 1000000000;
    private static final long GREATEST_VALUE = 1000000000000L;

    // Held in place of the value of a faulty cell; no value comes near it.
    private static final long FAULTY = Long.MIN_VALUE;

    // A sign is held as one int: the codes that the document tells, then the cells, then the numbers.
    private static final int PLUS = 0;
    private static final int MINUS = 1;
    private static final int TIMES = 2;
    private static final int DIVIDED = 3;
    private static final int OPENING = 4;
    private static final int CLOSING = 5;
    private static final int FIRST_CELL = 6;
    private static final int FIRST_NUMBER = FIRST_CELL + CELLS;

    // Sets of cells are held as ints, a bit for each cell.

    private final Draft draft;
    private final Reckoner reckoner;
    private final Formula empty;
    private final Formula[] formulas;
    // The formulas that the open layers remember, the lowest layer's first.
    private final Formula[] remembered;
    private final long[] values;
    // Values that are worked out only to be looked at; nothing is kept in it between calls.
    private final long[] trial;
    private int openLayers;
    private int found;

    public GoalseekOffice() {
        draft = new Draft();
        reckoner = new Reckoner();
        empty = new Formula(new int[0]);
        formulas = new Formula[CELLS];
        remembered = new Formula[MOST_LAYERS * CELLS];
        values = new long[CELLS];
        trial = new long[CELLS];
        for (int i = 0; i < formulas.length; i++) {
            formulas[i] = empty;
        }
        for (int i = 0; i < remembered.length; i++) {
            remembered[i] = empty;
        }
    }

    // ---- the draft

    /** Writes a number into the draft; returns how many signs the draft has then. */
    public int number(int number) throws IllegalArgumentException, IllegalStateException {
        requireNumber(number);
        requireRoom();
        return draft.write(FIRST_NUMBER + number);
    }

    /** Writes a cell into the draft; returns how many signs the draft has then. */
    public int cell(int cell) throws IndexOutOfBoundsException, IllegalStateException {
        requireCell(cell);
        requireRoom();
        return draft.write(FIRST_CELL + cell);
    }

    /** Writes one of the other signs into the draft; returns how many signs the draft has then. */
    public int sign(int code) throws IllegalArgumentException, IllegalStateException {
        if (code < PLUS || code > CLOSING) {
            throw new IllegalArgumentException("the code is out of range");
        }
        requireRoom();
        return draft.write(code);
    }

    /** Empties the draft; returns how many signs it had. */
    public int wipe() {
        int count = draft.count;
        draft.count = 0;
        return count;
    }

    /** Returns where the draft stops being a formula, or NONE if it is one. */
    public int fault() {
        return draft.faultPlace();
    }

    // ---- cells

    /** Gives the draft to a cell; returns for how many cells a value is found anew. */
    public int set(int cell)
            throws IndexOutOfBoundsException, IllegalArgumentException, IllegalStateException {
        requireCell(cell);
        if (draft.faultPlace() != NONE) {
            throw new IllegalArgumentException("the draft is no formula");
        }
        Formula formula = draft.toFormula();
        if (holds(withDependencies(formula.named), cell)) {
            throw new IllegalStateException("a cell would depend on itself");
        }
        draft.count = 0;
        return give(cell, formula);
    }

    /** Gives a number to a cell; returns for how many cells a value is found anew. */
    public int put(int cell, int number) throws IndexOutOfBoundsException, IllegalArgumentException {
        requireCell(cell);
        requireNumber(number);
        return give(cell, loneNumber(number));
    }

    /** Empties a cell; returns for how many cells a value is found anew. */
    public int clear(int cell) throws IndexOutOfBoundsException {
        requireCell(cell);
        return formulas[cell].isEmpty() ? 0 : give(cell, empty);
    }

    // ---- layers

    /** Opens a layer; returns how many are open then. */
    public int open() throws IllegalStateException {
        if (openLayers >= MOST_LAYERS) {
            throw new IllegalStateException("no more layers can be opened");
        }
        int from = openLayers * CELLS;
        for (int cell = 0; cell < CELLS; cell++) {
            remembered[from + cell] = formulas[cell];
        }
        openLayers++;
        return openLayers;
    }

    /** Drops the topmost layer; returns how many cells have another formula by that. */
    public int drop() throws IllegalStateException {
        requireLayer();
        openLayers--;
        int from = openLayers * CELLS;
        int changed = 0;
        for (int cell = 0; cell < CELLS; cell++) {
            Formula formula = remembered[from + cell];
            if (!formula.sameAs(formulas[cell])) {
                changed |= only(cell);
            }
            formulas[cell] = formula;
        }
        findAnew(changed);
        return Integer.bitCount(changed);
    }

    /** Keeps what was done in the topmost layer; returns how many layers are open then. */
    public int keep() throws IllegalStateException {
        requireLayer();
        openLayers--;
        return openLayers;
    }

    /** Returns how many layers are open. */
    public int layers() {
        return openLayers;
    }

    // ---- values and dependencies

    /** Returns how many signs the draft has. */
    public int drafted() {
        return draft.count;
    }

    /** Returns the value of a cell. */
    public long value(int cell) throws IndexOutOfBoundsException, ArithmeticException {
        requireCell(cell);
        requireValue(values[cell]);
        return values[cell];
    }

    /** Returns the value of a cell, worked out from the formulas of all cells on which it depends. */
    public long valueAnew(int cell) throws IndexOutOfBoundsException, ArithmeticException {
        requireCell(cell);
        workOut(withDependencies(only(cell)), trial);
        requireValue(trial[cell]);
        return trial[cell];
    }

    /** Returns how many signs the formula of a cell has. */
    public int signs(int cell) throws IndexOutOfBoundsException {
        requireCell(cell);
        return formulas[cell].signs.length;
    }

    /** Returns the level of a cell. */
    public int level(int cell) throws IndexOutOfBoundsException {
        requireCell(cell);
        // The level is the length of the longest way along references that begins at the cell.
        int level = 0;
        int reached = formulas[cell].named;
        while (reached != 0 && level < CELLS) {
            level++;
            reached = namedByAny(reached);
        }
        return level;
    }

    /** Tells whether a cell depends on another one. */
    public boolean depends(int cell, int other) throws IndexOutOfBoundsException {
        requireCell(cell);
        requireCell(other);
        return dependsOn(cell, other);
    }

    /** Returns how many cells are faulty. */
    public int faulty() {
        int count = 0;
        for (int cell = 0; cell < CELLS; cell++) {
            if (values[cell] == FAULTY) {
                count++;
            }
        }
        return count;
    }

    /** Returns how many values have been found anew since the beginning. */
    public int foundAnew() {
        return found;
    }

    // ---- targets

    /** Seeks a number for an input with which a goal reaches a target, and gives it to the input. */
    public int seek(int goal, int target, int input, int low, int high)
            throws IndexOutOfBoundsException, IllegalArgumentException, IllegalStateException,
            NoSuchElementException {
        requireCell(goal);
        requireCell(input);
        if (target < -GREATEST_TARGET || target > GREATEST_TARGET) {
            throw new IllegalArgumentException("the target is out of range");
        }
        if (low < 0 || high < low || high > GREATEST_NUMBER) {
            throw new IllegalArgumentException("low or high is out of range");
        }
        if (!formulas[input].canBeInput()) {
            throw new IllegalStateException("the input is neither empty nor a single number");
        }
        if (!dependsOn(goal, input)) {
            throw new IllegalStateException("the goal does not depend on the input");
        }
        int number = search(goal, target, input, low, high);
        if (number == NONE) {
            throw new NoSuchElementException("nothing is found");
        }
        give(input, loneNumber(number));
        return number;
    }

    /** The number with which the goal reaches the target, or NONE if nothing is found. */
    private int search(int goal, int target, int input, int least, int greatest) {
        System.arraycopy(values, 0, trial, 0, CELLS);
        int between = withDependents(only(input)) & withDependencies(only(goal)) & ~only(input);
        int low = least;
        int high = greatest;
        long atLow = goalWith(goal, input, low, between);
        long atHigh = goalWith(goal, input, high, between);
        if (atLow == FAULTY || atHigh == FAULTY || onOneSide(atLow, atHigh, target)) {
            return NONE;
        }
        // Each turn brings low and high nearer by 1 at least.
        for (int turn = 0; turn < GREATEST_NUMBER && high > low + 1; turn++) {
            int middle = (low + high) / 2;
            long atMiddle = goalWith(goal, input, middle, between);
            if (atMiddle == FAULTY) {
                return NONE;
            }
            if (onOneSide(atMiddle, atLow, target)) {
                low = middle;
                atLow = atMiddle;
            } else {
                high = middle;
            }
        }
        return atLow == target ? low : high;
    }

    /** The goal's value if the input had the number; only the cells between them are worked out. */
    private long goalWith(int goal, int input, int number, int between) {
        trial[input] = number;
        workOut(between, trial);
        return trial[goal];
    }

    private static boolean onOneSide(long value, long other, long target) {
        return value > target && other > target || value < target && other < target;
    }

    // ---- finding anew

    private int give(int cell, Formula formula) {
        formulas[cell] = formula;
        return findAnew(only(cell));
    }

    /** Finds the values of cells anew, and of all that depend on them; returns how many these are. */
    private int findAnew(int changed) {
        int due = withDependents(changed);
        workOut(due, values);
        int count = Integer.bitCount(due);
        found += count;
        return count;
    }

    /** Works out cells into a row that holds the values of all other cells to which they refer. */
    private void workOut(int due, long[] row) {
        int left = due;
        // No cell depends on itself, so each turn works out one cell at least.
        for (int turn = 0; turn < CELLS && left != 0; turn++) {
            for (int cell = 0; cell < CELLS; cell++) {
                Formula formula = formulas[cell];
                if (holds(left, cell) && (formula.named & left) == 0) {
                    reckoner.take(formula, row);
                    row[cell] = formula.isEmpty() ? 0 : reckoner.sum(0);
                    left &= ~only(cell);
                }
            }
        }
    }

    // ---- sets of cells

    private static int only(int cell) {
        return 1 << cell;
    }

    private static boolean holds(int cells, int cell) {
        return (cells >> cell & 1) != 0;
    }

    private boolean dependsOn(int cell, int other) {
        return cell != other && holds(withDependencies(only(cell)), other);
    }

    /** The cells to which the formulas of any of the cells refer. */
    private int namedByAny(int cells) {
        int named = 0;
        for (int cell = 0; cell < CELLS; cell++) {
            if (holds(cells, cell)) {
                named |= formulas[cell].named;
            }
        }
        return named;
    }

    /** The cells, and all on which any of them depends. */
    private int withDependencies(int cells) {
        int reached = cells;
        int before = 0;
        for (int turn = 0; turn < CELLS && reached != before; turn++) {
            before = reached;
            reached |= namedByAny(reached);
        }
        return reached;
    }

    /** The cells, and all that depend on any of them. */
    private int withDependents(int cells) {
        int reached = cells;
        int before = 0;
        for (int turn = 0; turn < CELLS && reached != before; turn++) {
            before = reached;
            for (int cell = 0; cell < CELLS; cell++) {
                if ((formulas[cell].named & reached) != 0) {
                    reached |= only(cell);
                }
            }
        }
        return reached;
    }

    // ---- what is asked of arguments and of the state

    private static void requireCell(int cell) {
        if (cell < 0 || cell >= CELLS) {
            throw new IndexOutOfBoundsException("there is no such cell");
        }
    }

    private static void requireNumber(int number) {
        if (number < 0 || number > GREATEST_NUMBER) {
            throw new IllegalArgumentException("the number is out of range");
        }
    }

    private static void requireValue(long value) {
        if (value == FAULTY) {
            throw new ArithmeticException("the cell is faulty");
        }
    }

    private void requireRoom() {
        if (draft.count >= MOST_SIGNS) {
            throw new IllegalStateException("the draft is full");
        }
    }

    private void requireLayer() {
        if (openLayers <= 0) {
            throw new IllegalStateException("no layer is open");
        }
    }

    private static Formula loneNumber(int number) {
        int[] signs = {FIRST_NUMBER + number};
        return new Formula(signs);
    }

    /** The formula of a cell. It never changes, so that cells and layers can share one. */
    private static final class Formula {
        private final int[] signs;
        private final int named;

        private Formula(int[] signs) {
            this.signs = signs;
            int cells = 0;
            for (int i = 0; i < signs.length; i++) {
                if (signs[i] >= FIRST_CELL && signs[i] < FIRST_NUMBER) {
                    cells |= only(signs[i] - FIRST_CELL);
                }
            }
            this.named = cells;
        }

        private boolean isEmpty() {
            return signs.length == 0;
        }

        private boolean canBeInput() {
            return signs.length == 0 || signs.length == 1 && signs[0] >= FIRST_NUMBER;
        }

        private boolean sameAs(Formula other) {
            if (signs.length != other.signs.length) {
                return false;
            }
            for (int i = 0; i < signs.length; i++) {
                if (signs[i] != other.signs[i]) {
                    return false;
                }
            }
            return true;
        }
    }

    /** The signs that have been written and not yet given to a cell. */
    private static final class Draft {
        private final int[] signs = new int[MOST_SIGNS];
        private int count;

        /** Writes a sign behind the others; there must be room for it. */
        private int write(int sign) {
            if (count < signs.length) {
                signs[count] = sign;
                count++;
            }
            return count;
        }

        /** The place of the first sign that cannot stand where it does, or NONE. */
        private int faultPlace() {
            int brackets = 0;
            boolean factorIsDue = true;
            for (int place = 0; place < count && place < signs.length; place++) {
                int sign = signs[place];
                if (factorIsDue) {
                    if (sign == OPENING) {
                        brackets++;
                    } else if (sign >= FIRST_CELL) {
                        factorIsDue = false;
                    } else if (sign != MINUS) {
                        return place;
                    }
                } else if (sign <= DIVIDED) {
                    factorIsDue = true;
                } else if (sign == CLOSING && brackets > 0) {
                    brackets--;
                } else {
                    return place;
                }
            }
            return factorIsDue || brackets > 0 ? count : NONE;
        }

        private Formula toFormula() {
            return new Formula(Arrays.copyOf(signs, count));
        }
    }

    /** Works out one formula after another; each is read from the left, sign by sign. */
    private static final class Reckoner {
        private int[] signs = new int[0];
        private long[] row = new long[0];
        private int at;

        /** Takes up a formula and a row that holds the values of the cells to which it refers. */
        private void take(Formula formula, long[] valuesOfCells) {
            signs = formula.signs;
            row = valuesOfCells;
            at = 0;
        }

        private long sum(int depth) {
            long result = product(depth);
            while (at < signs.length && (signs[at] == PLUS || signs[at] == MINUS)) {
                int code = signs[at];
                at++;
                result = combine(code, result, product(depth));
            }
            return result;
        }

        private long product(int depth) {
            long result = factor(depth);
            while (at < signs.length && (signs[at] == TIMES || signs[at] == DIVIDED)) {
                int code = signs[at];
                at++;
                result = combine(code, result, factor(depth));
            }
            return result;
        }

        /** A factor; the depth tells how many brackets stand open round it. */
        private long factor(int depth) {
            boolean negative = false;
            while (at < signs.length && signs[at] == MINUS) {
                negative = !negative;
                at++;
            }
            if (at >= signs.length || depth > MOST_SIGNS) {
                return FAULTY;
            }
            int sign = signs[at];
            at++;
            long result = FAULTY;
            if (sign >= FIRST_NUMBER) {
                result = sign - FIRST_NUMBER;
            } else if (sign >= FIRST_CELL && sign - FIRST_CELL < row.length) {
                result = row[sign - FIRST_CELL];
            } else if (sign == OPENING) {
                result = sum(depth + 1);
                // Past the closing bracket.
                at++;
            }
            return negative && result != FAULTY ? -result : result;
        }

        private static long combine(int code, long left, long right) {
            if (left == FAULTY || right == FAULTY) {
                return FAULTY;
            }
            long result;
            if (code == PLUS) {
                result = left + right;
            } else if (code == MINUS) {
                result = left - right;
            } else if (code == TIMES) {
                // Told before it is worked out, as the product may be beyond a long.
                if (left != 0 && Math.abs(right) > GREATEST_VALUE / Math.abs(left)) {
                    return FAULTY;
                }
                result = left * right;
            } else {
                if (right == 0) {
                    return FAULTY;
                }
                result = Math.floorDiv(left, right);
            }
            return result < -GREATEST_VALUE || result > GREATEST_VALUE ? FAULTY : result;
        }
    }
}
