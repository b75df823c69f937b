import java.math.BigInteger;
import java.util.ArrayList;
import java.util.HashMap;
import java.util.HashSet;
import java.util.List;
import java.util.Map;
import java.util.NoSuchElementException;
import java.util.Set;

/**
 * The document a second time, written for plainness and not for speed, and apart from the program:
 * signs are texts, nothing is kept but formulas, and all else is found by recursion when it is asked.
 */
final class Model {
    private static final int CELLS = 30;
    private static final BigInteger LIMIT = BigInteger.TEN.pow(12);
    private static final List<String> SIGNS = List.of("+", "-", "*", "/", "(", ")");

    private final List<String> draft = new ArrayList<>();
    private List<List<String>> formulas = new ArrayList<>();
    private final List<List<List<String>>> layers = new ArrayList<>();
    private int found;

    Model() {
        for (int cell = 0; cell < CELLS; cell++) {
            formulas.add(List.of());
        }
    }

    int number(int number) {
        number(number, 999999);
        return write(Integer.toString(number));
    }

    int cell(int cell) {
        check(cell);
        return write("c" + cell);
    }

    int sign(int code) {
        if (code < 0 || code > 5) {
            throw new IllegalArgumentException();
        }
        return write(SIGNS.get(code));
    }

    private int write(String sign) {
        state(draft.size() < 15);
        draft.add(sign);
        return draft.size();
    }

    int wipe() {
        int count = draft.size();
        draft.clear();
        return count;
    }

    /** The first place up to which the draft cannot be lengthened to a formula by any signs. */
    int fault() {
        if (Reader.isFormula(draft)) {
            return -1;
        }
        for (int place = 0; place < draft.size(); place++) {
            if (!canBecomeFormula(draft.subList(0, place + 1))) {
                return place;
            }
        }
        return draft.size();
    }

    /** What can be lengthened at all can be by a number or none, and closing brackets behind it. */
    private static boolean canBecomeFormula(List<String> signs) {
        for (int brackets = 0; brackets <= signs.size(); brackets++) {
            List<String> longer = new ArrayList<>(signs);
            List<String> longerByNumber = new ArrayList<>(signs);
            longerByNumber.add("1");
            for (int i = 0; i < brackets; i++) {
                longer.add(")");
                longerByNumber.add(")");
            }
            if (Reader.isFormula(longer) || Reader.isFormula(longerByNumber)) {
                return true;
            }
        }
        return false;
    }

    int set(int cell) {
        check(cell);
        if (!Reader.isFormula(draft)) {
            throw new IllegalArgumentException();
        }
        for (String sign : draft) {
            state(!sign.equals("c" + cell) && !(sign.startsWith("c") && depends(cellOf(sign), cell)));
        }
        int count = give(cell, new ArrayList<>(draft));
        draft.clear();
        return count;
    }

    int put(int cell, int number) {
        check(cell);
        number(number, 999999);
        return give(cell, List.of(Integer.toString(number)));
    }

    int clear(int cell) {
        check(cell);
        return formulas.get(cell).isEmpty() ? 0 : give(cell, List.of());
    }

    private int give(int cell, List<String> formula) {
        formulas.set(cell, formula);
        int count = countWithDependents(Set.of(cell));
        found += count;
        return count;
    }

    private int countWithDependents(Set<Integer> changed) {
        Set<Integer> all = new HashSet<>(changed);
        for (int cell = 0; cell < CELLS; cell++) {
            for (int other : changed) {
                if (depends(cell, other)) {
                    all.add(cell);
                }
            }
        }
        return all.size();
    }

    int open() {
        state(layers.size() < 4);
        layers.add(new ArrayList<>(formulas));
        return layers.size();
    }

    int drop() {
        state(!layers.isEmpty());
        List<List<String>> before = layers.remove(layers.size() - 1);
        Set<Integer> changed = new HashSet<>();
        for (int cell = 0; cell < CELLS; cell++) {
            if (!before.get(cell).equals(formulas.get(cell))) {
                changed.add(cell);
            }
        }
        formulas = before;
        found += countWithDependents(changed);
        return changed.size();
    }

    int keep() {
        state(!layers.isEmpty());
        layers.remove(layers.size() - 1);
        return layers.size();
    }

    int layers() {
        return layers.size();
    }

    int drafted() {
        return draft.size();
    }

    long value(int cell) {
        check(cell);
        BigInteger value = valueOrNull(cell, new HashMap<>());
        if (value == null) {
            throw new ArithmeticException();
        }
        return value.longValueExact();
    }

    private BigInteger valueOrNull(int cell, Map<Integer, BigInteger> known) {
        if (!known.containsKey(cell)) {
            List<String> formula = formulas.get(cell);
            known.put(cell, formula.isEmpty() ? BigInteger.ZERO
                : Reader.value(formula, named -> valueOrNull(named, known)));
        }
        return known.get(cell);
    }

    int signs(int cell) {
        check(cell);
        return formulas.get(cell).size();
    }

    int level(int cell) {
        check(cell);
        return level(cell, new HashMap<>());
    }

    private int level(int cell, Map<Integer, Integer> known) {
        if (!known.containsKey(cell)) {
            int level = 0;
            for (String sign : formulas.get(cell)) {
                level = sign.startsWith("c") ? Math.max(level, 1 + level(cellOf(sign), known)) : level;
            }
            known.put(cell, level);
        }
        return known.get(cell);
    }

    boolean depends(int cell, int other) {
        check(cell);
        check(other);
        return reaches(cell, other, new HashSet<>());
    }

    private boolean reaches(int cell, int other, Set<Integer> seen) {
        for (String sign : formulas.get(cell)) {
            if (sign.startsWith("c") && seen.add(cellOf(sign))
                    && (cellOf(sign) == other || reaches(cellOf(sign), other, seen))) {
                return true;
            }
        }
        return false;
    }

    int faulty() {
        Map<Integer, BigInteger> known = new HashMap<>();
        int count = 0;
        for (int cell = 0; cell < CELLS; cell++) {
            count += valueOrNull(cell, known) == null ? 1 : 0;
        }
        return count;
    }

    int foundAnew() {
        return found;
    }

    int seek(int goal, int target, int input, int low, int high) {
        check(goal);
        check(input);
        if (target < -1000000000 || target > 1000000000) {
            throw new IllegalArgumentException();
        }
        number(low, 999999);
        number(high, 999999);
        if (high < low) {
            throw new IllegalArgumentException();
        }
        List<String> formula = formulas.get(input);
        state(formula.isEmpty() || formula.size() == 1 && Character.isDigit(formula.get(0).charAt(0)));
        state(depends(goal, input));
        int number = sought(goal, target, input, low, high);
        give(input, List.of(Integer.toString(number)));
        return number;
    }

    private int sought(int goal, int target, int input, int low, int high) {
        if (side(goal, target, input, low) * side(goal, target, input, high) > 0) {
            throw new NoSuchElementException();
        }
        if (high <= low + 1) {
            return side(goal, target, input, low) == 0 ? low : high;
        }
        int half = Math.floorDiv(low + high, 2);
        // Ends and halves that are faulty end the search; that the ends are looked at again changes nothing.
        if (side(goal, target, input, half) * side(goal, target, input, low) > 0) {
            return sought(goal, target, input, half, high);
        }
        return sought(goal, target, input, low, half);
    }

    /** 1 if the goal is above the target then, -1 if it is below it. */
    private int side(int goal, int target, int input, int number) {
        Map<Integer, BigInteger> known = new HashMap<>();
        known.put(input, BigInteger.valueOf(number));
        BigInteger value = valueOrNull(goal, known);
        if (value == null) {
            throw new NoSuchElementException();
        }
        return value.compareTo(BigInteger.valueOf(target));
    }

    private static int cellOf(String sign) {
        return Integer.parseInt(sign.substring(1));
    }

    private static void check(int cell) {
        if (cell < 0 || cell >= CELLS) {
            throw new IndexOutOfBoundsException();
        }
    }

    private static void number(int number, int greatest) {
        if (number < 0 || number > greatest) {
            throw new IllegalArgumentException();
        }
    }

    private static void state(boolean holds) {
        if (!holds) {
            throw new IllegalStateException();
        }
    }

    /** The value of a cell, or null if it is faulty. */
    interface Values {
        BigInteger of(int cell);
    }

    /** Splits a formula at its last sign of the weakest kind, and reads the parts. */
    private static final class Reader {
        static boolean isFormula(List<String> signs) {
            return sumAt(signs) > 0 || isProduct(signs);
        }

        private static boolean isProduct(List<String> signs) {
            return productAt(signs) > 0 || isFactor(signs);
        }

        private static boolean isFactor(List<String> signs) {
            if (signs.isEmpty()) {
                return false;
            }
            if (signs.get(0).equals("-")) {
                return isFactor(behind(signs, 0));
            }
            if (signs.get(0).equals("(")) {
                return signs.get(signs.size() - 1).equals(")") && signs.size() > 2
                    && isFormula(signs.subList(1, signs.size() - 1));
            }
            return signs.size() == 1 && !SIGNS.contains(signs.get(0));
        }

        /** Where a formula of two products at least has its last plus or minus between them, or 0. */
        private static int sumAt(List<String> signs) {
            for (int at = signs.size() - 2; at > 0; at--) {
                if ("+-".contains(signs.get(at)) && isProduct(behind(signs, at)) && isFormula(signs.subList(0, at))) {
                    return at;
                }
            }
            return 0;
        }

        /** Where a product of two factors at least has its last times or divided by between them, or 0. */
        private static int productAt(List<String> signs) {
            for (int at = signs.size() - 2; at > 0; at--) {
                if ("*/".contains(signs.get(at)) && isFactor(behind(signs, at)) && isProduct(signs.subList(0, at))) {
                    return at;
                }
            }
            return 0;
        }

        private static List<String> behind(List<String> signs, int place) {
            return signs.subList(place + 1, signs.size());
        }

        static BigInteger value(List<String> signs, Values values) {
            int at = sumAt(signs) > 0 ? sumAt(signs) : productAt(signs);
            if (at > 0) {
                return combined(signs.get(at), value(signs.subList(0, at), values), value(behind(signs, at), values));
            }
            String first = signs.get(0);
            if (first.equals("-")) {
                return combined("-", BigInteger.ZERO, value(behind(signs, 0), values));
            }
            if (first.equals("(")) {
                return value(signs.subList(1, signs.size() - 1), values);
            }
            return first.startsWith("c") ? values.of(cellOf(first)) : new BigInteger(first);
        }

        private static BigInteger combined(String sign, BigInteger left, BigInteger right) {
            if (left == null || right == null || sign.equals("/") && right.signum() == 0) {
                return null;
            }
            BigInteger result;
            switch (sign) {
                case "+": result = left.add(right); break;
                case "-": result = left.subtract(right); break;
                case "*": result = left.multiply(right); break;
                default: result = floor(left, right); break;
            }
            return result.abs().compareTo(LIMIT) > 0 ? null : result;
        }

        private static BigInteger floor(BigInteger left, BigInteger right) {
            BigInteger[] parts = left.divideAndRemainder(right);
            boolean roundedUp = parts[1].signum() != 0 && parts[1].signum() != right.signum();
            return roundedUp ? parts[0].subtract(BigInteger.ONE) : parts[0];
        }
    }
}
