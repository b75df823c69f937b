import java.util.NoSuchElementException;

/** Each sentence about seeking, in "Terms" and in promise 22, that names a boundary case. */
public final class SeekEdgesTest {
    private static final Expect EXPECT = new Expect();
    private static final Class<IndexOutOfBoundsException> INDEX = IndexOutOfBoundsException.class;
    private static final Class<IllegalArgumentException> ARGUMENT = IllegalArgumentException.class;
    private static final Class<IllegalStateException> STATE = IllegalStateException.class;
    private static final Class<NoSuchElementException> NO_SUCH = NoSuchElementException.class;

    public static void main(String[] args) {
        EXPECT.test(SeekEdgesTest::inputs);
        EXPECT.test(SeekEdgesTest::inputsThatAreNot);
        EXPECT.test(SeekEdgesTest::goals);
        EXPECT.test(SeekEdgesTest::numberInPlaceOfTheInput);
        EXPECT.test(SeekEdgesTest::lowAndHighAsTold);
        EXPECT.test(SeekEdgesTest::faultyEnds);
        EXPECT.test(SeekEdgesTest::bothAbove);
        EXPECT.test(SeekEdgesTest::bothBelow);
        EXPECT.test(SeekEdgesTest::noHalvingOfNeighbours);
        EXPECT.test(SeekEdgesTest::halves);
        EXPECT.test(SeekEdgesTest::halvesRoundedDown);
        EXPECT.test(SeekEdgesTest::faultyHalf);
        EXPECT.test(SeekEdgesTest::lowBecomesHalf);
        EXPECT.test(SeekEdgesTest::highBecomesHalf);
        EXPECT.test(SeekEdgesTest::lowIsFound);
        EXPECT.test(SeekEdgesTest::highIsFound);
        EXPECT.test(SeekEdgesTest::valuesBeyondAnInt);
        EXPECT.test(SeekEdgesTest::givesItAsPutDoes);
        EXPECT.test(SeekEdgesTest::noSuchCell);
        EXPECT.test(SeekEdgesTest::targets);
        EXPECT.test(SeekEdgesTest::ranges);
        EXPECT.test(SeekEdgesTest::notOnTheInput);
        EXPECT.test(SeekEdgesTest::nothingFound);
        EXPECT.end();
    }

    /** An office whose cell 1 has the formula, over the input 0. */
    private static GoalseekOffice office(String formula) {
        GoalseekOffice office = new GoalseekOffice();
        Written.give(office, 1, formula);
        return office;
    }

    private static void found(String formula, int target, int low, int high, int due) {
        GoalseekOffice office = office(formula);
        String call = "seek(1, " + target + ", 0, " + low + ", " + high + ") with " + formula;
        EXPECT.same(call, answer(office, target, low, high), Integer.toString(due));
        EXPECT.same("value(0) after " + call, office.value(0), due);
        EXPECT.same("signs(0) after " + call, office.signs(0), 1);
    }

    private static void none(String formula, int target, int low, int high) {
        GoalseekOffice office = office(formula);
        String call = "seek(1, " + target + ", 0, " + low + ", " + high + ") with " + formula;
        EXPECT.same(call, answer(office, target, low, high), "none");
        EXPECT.same("signs(0) after " + call, office.signs(0), 0);
    }

    private static String answer(GoalseekOffice office, int target, int low, int high) {
        try {
            return Integer.toString(office.seek(1, target, 0, low, high));
        } catch (NoSuchElementException thrown) {
            return "none";
        }
    }

    // ---- Terms: the input and the goal

    private static void inputs() {
        EXPECT.sentence("The input is a cell that is empty, or whose formula is a single number");
        GoalseekOffice office = office("c0 + 0");
        EXPECT.same("seek() with an empty input", office.seek(1, 5, 0, 0, 9), 5);
        office.put(0, 0);
        EXPECT.same("seek() with the input 0", office.seek(1, 6, 0, 0, 9), 6);
        office.put(0, 999999);
        EXPECT.same("seek() with the input 999999", office.seek(1, 7, 0, 0, 9), 7);
        Written.give(office, 0, "4");
        EXPECT.same("seek() with a number that set() gave", office.seek(1, 8, 0, 0, 9), 8);
        office.clear(0);
        EXPECT.same("seek() with an input that was emptied", office.seek(1, 9, 0, 0, 9), 9);
    }

    private static void inputsThatAreNot() {
        EXPECT.sentence("The input is a cell that is empty, or whose formula is a single number: no others");
        for (String input : new String[] {"-3", "--3", "(3)", "3 + 0", "c9", "c9 * 0", "1 / 0"}) {
            GoalseekOffice office = office("c0 + 0");
            Written.give(office, 0, input);
            EXPECT.fails(office, STATE, "seek() with the input " + input, () -> office.seek(1, 3, 0, 0, 9));
        }
    }

    private static void goals() {
        EXPECT.sentence("The goal is a cell that depends on the input");
        GoalseekOffice office = office("c0 * 2");
        Written.give(office, 2, "c1 + 1");
        EXPECT.same("seek() of a cell that refers to the input", office.seek(1, 6, 0, 0, 9), 3);
        EXPECT.same("seek() over another cell", office.seek(2, 11, 0, 0, 9), 5);
        EXPECT.fails(office, STATE, "seek() of the input itself", () -> office.seek(0, 5, 0, 0, 9));
        EXPECT.fails(office, STATE, "seek() of an empty cell", () -> office.seek(3, 0, 0, 0, 9));
        GoalseekOffice turned = new GoalseekOffice();
        turned.put(1, 4);
        Written.give(turned, 0, "c1");
        EXPECT.fails(turned, STATE, "seek() of a cell on which the input depends", () -> turned.seek(1, 4, 0, 0, 9));
        GoalseekOffice chain = new GoalseekOffice();
        for (int cell = 0; cell < 29; cell++) {
            Written.give(chain, cell, "c" + (cell + 1) + " + 1");
        }
        EXPECT.same("seek() over all cells", chain.seek(0, 50, 29, 0, 999999), 21);
        EXPECT.same("value(0) after it", chain.value(0), 50);
    }

    private static void numberInPlaceOfTheInput() {
        EXPECT.sentence("f(x) is the value of the goal if the input had the number x as its formula");
        GoalseekOffice beside = office("c0 + c2 * c3");
        beside.put(2, 5);
        Written.give(beside, 3, "c2 - 1");
        EXPECT.same("seek() with other cells beside the input", beside.seek(1, 27, 0, 0, 9), 7);
        GoalseekOffice office = office("1000 / c0");
        EXPECT.fails(office, ArithmeticException.class, "value(1) ahead of it", () -> office.value(1));
        EXPECT.same("seek() of a goal that is faulty as it stands", office.seek(1, 10, 0, 1, 100), 91);
        EXPECT.same("value(1) after it", office.value(1), 10);
        EXPECT.fails(office, NO_SUCH, "seek() of the value as it stands, out of the numbers' range",
            () -> office.seek(1, 10, 0, 1, 50));
        Written.give(office, 5, "1 / 0");
        EXPECT.same("seek() with a faulty cell on which the goal does not depend", office.seek(1, 20, 0, 1, 50), 48);
        Written.give(office, 1, "c0 + 0 * c5");
        EXPECT.fails(office, NO_SUCH, "seek() with a faulty cell beside the input", () -> office.seek(1, 5, 0, 0, 9));
    }

    // ---- Terms: the search

    private static void lowAndHighAsTold() {
        EXPECT.sentence("At first low and high are as told");
        found("c0", 0, 0, 999999, 0);
        found("c0", 999999, 0, 999999, 999999);
        found("c0", 0, 0, 0, 0);
        found("c0", 999999, 999999, 999999, 999999);
        found("c0", 5, 5, 5, 5);
        found("c0", 5, 5, 6, 5);
        found("c0", 6, 5, 6, 6);
        none("c0", 5, 6, 7);
        none("c0", 8, 6, 7);
    }

    private static void faultyEnds() {
        EXPECT.sentence("If f(low) or f(high) is faulty, nothing is found");
        found("c0 + 0 / (c0 - 3)", 5, 4, 6, 5);
        none("c0 + 0 / (c0 - 4)", 5, 4, 6);
        none("c0 + 0 / (c0 - 6)", 5, 4, 6);
        none("c0 + 0 / (c0 - 4)", 6, 4, 6);
        none("c0 + 0 / (c0 - 6)", 4, 4, 6);
        none("0 - c0 + 0 / (c0 - 4)", -5, 4, 6);
        none("0 - c0 + 0 / (c0 - 6)", -5, 4, 6);
        none("c0 + 0 / (c0 - 4)", 4, 4, 4);
        none("0 / c0", 0, 0, 0);
    }

    private static void bothAbove() {
        EXPECT.sentence("If both are above the target, nothing is found");
        none("c0", 4, 5, 9);
        none("c0", 4, 5, 5);
        none("9 - c0", 1, 0, 7);
        none("(c0 - 4) * (c0 - 8)", 11, 0, 10);
        found("c0", 5, 5, 9, 5);
        found("9 - c0", 2, 0, 7, 7);
        found("(c0 - 4) * (c0 - 8)", 12, 0, 10, 2);
    }

    private static void bothBelow() {
        EXPECT.sentence("If both are below the target, nothing is found");
        none("c0", 10, 5, 9);
        none("c0", 6, 5, 5);
        none("9 - c0", 10, 0, 7);
        none("c0 * (10 - c0)", 10, 1, 9);
        found("c0", 9, 5, 9, 9);
        found("9 - c0", 9, 0, 7, 0);
        found("c0 * (10 - c0)", 9, 1, 9, 1);
    }

    private static void noHalvingOfNeighbours() {
        EXPECT.sentence("As long as high is more than low and 1 together");
        found("c0 * 10", 45, 4, 5, 5);
        found("c0 * 10", 40, 4, 5, 4);
        found("c0 * 10", 40, 4, 4, 4);
        found("10 - c0 * 4", -7, 4, 5, 5);
        // The one number between 4 and 6 is looked at, so that its fault counts.
        none("c0 + 0 / (c0 - 5)", 4, 4, 6);
        none("c0 + 0 / (c0 - 5)", 6, 4, 6);
        found("c0", 999998, 999997, 999999, 999998);
    }

    private static void halves() {
        EXPECT.sentence("x is half of low and high, together: of both, at the range's end too");
        // On the way to 999999 these are looked at: 499999, 749999, and so on, 999997 and 999998.
        none("c0 + 0 / (c0 - 499999)", 999999, 0, 999999);
        found("c0 + 0 / (c0 - 500000)", 999999, 0, 999999, 999999);
        none("c0 + 0 / (c0 - 749999)", 999999, 0, 999999);
        found("c0 + 0 / (c0 - 750000)", 999999, 0, 999999, 999999);
        found("c0 + 0 / (c0 - 999996)", 999999, 0, 999999, 999999);
        none("c0 + 0 / (c0 - 999997)", 999999, 0, 999999);
        none("c0 + 0 / (c0 - 999998)", 999999, 0, 999999);
    }

    private static void halvesRoundedDown() {
        EXPECT.sentence("x is half of low and high, together, rounded down");
        // From 0 to 3 the first half is 1; from 0 to 5 it is 2; from 3 to 8 it is 5.
        none("c0 + 0 / (c0 - 1)", 0, 0, 3);
        found("c0 + 0 / (c0 - 2)", 0, 0, 3, 0);
        none("c0 + 0 / (c0 - 2)", 0, 0, 5);
        found("c0 + 0 / (c0 - 3)", 0, 0, 5, 0);
        none("c0 + 0 / (c0 - 5)", 3, 3, 8);
        found("c0 + 0 / (c0 - 6)", 3, 3, 8, 3);
    }

    private static void faultyHalf() {
        EXPECT.sentence("If f(x) is faulty, nothing is found");
        none("c0 + 0 / (c0 - 25)", 10, 0, 50);
        none("c0 + 0 / (c0 - 12)", 10, 0, 50);
        none("c0 + 0 / (c0 - 25)", 0, 0, 50);
        none("c0 + 0 / (c0 - 25)", 50, 0, 50);
        none("0 - c0 + 0 / (c0 - 25)", -10, 0, 50);
        // 37 is no half on the way to 10.
        found("c0 + 0 / (c0 - 37)", 10, 0, 50, 10);
        // Both ends are in the values' range, and the half is not: 500 * 500 * 4000000 is its end.
        none("c0 * (1000 - c0) * 2002 * 2000", 0, 0, 1000);
        found("c0 * (1000 - c0) * 2000 * 2000", 0, 0, 1000, 0);
    }

    private static void lowBecomesHalf() {
        EXPECT.sentence("If f(x) and f(low) are both above the target, or both below it, low becomes x");
        found("c0", 8, 0, 10, 8);
        found("0 - c0", -8, 0, 10, 8);
        found("c0", 6, 0, 10, 6);
        // Low becomes 1 and then 2, where f is 21 and 12, above 5 as f(0) is.
        found("(c0 - 4) * (c0 - 8)", 5, 0, 6, 3);
        // Low becomes 4, 6, 7 and 8, where f is below 30 as f(0) is, and from 0 on above it.
        found("c0 * c0 - 42", 30, 0, 9, 9);
    }

    private static void highBecomesHalf() {
        EXPECT.sentence("Otherwise high becomes x: where f(x) is the target too");
        // f(5) is the target, so high becomes 5, and then 3, though others above 5 reach it too.
        found("c0 / 5", 1, 0, 10, 5);
        found("c0 / 3", 1, 0, 10, 3);
        found("0 - c0 / 3", -1, 0, 10, 3);
        // f(low) is the target, so high comes down to low and 1, whatever f(x) is.
        found("c0", 0, 0, 10, 0);
        found("0 - c0", 0, 0, 10, 0);
        found("c0 * 0", 0, 0, 10, 0);
        // f(5) is below 10 and f(0) above it.
        found("100 - c0 * 30", 10, 0, 10, 3);
    }

    private static void lowIsFound() {
        EXPECT.sentence("What is found in the end is low, if f(low) is the target");
        found("c0 * 0 + 4", 4, 17, 999999, 17);
        found("c0 * (c0 - 9)", 0, 0, 9, 0);
        found("c0 / 5", 0, 0, 4, 0);
        found("c0 / 5", 0, 3, 4, 3);
        found("c0", 7, 7, 8, 7);
        found("c0", 7, 7, 7, 7);
    }

    private static void highIsFound() {
        EXPECT.sentence("What is found in the end is low, if f(low) is the target, otherwise high");
        found("c0 * 2", 7, 0, 9, 4);
        found("c0 * 2", 7, 3, 4, 4);
        found("100 - c0 * 3", 50, 0, 30, 17);
        found("c0 / 9", 1, 0, 9, 9);
        found("c0 / 9 * 5", 3, 0, 9, 9);
    }

    private static void valuesBeyondAnInt() {
        EXPECT.sentence("Values are whole numbers up to 1000000000000, and targets up to 1000000000");
        found("c0 * 999999", 1000000000, 0, 999999, 1001);
        found("c0 * -999999", -1000000000, 0, 999999, 1001);
        // f(low) and f(high) are 2 to the power 32 and more, whose lower halves are about the target.
        none("65536 * 65536 + c0", 5, 0, 9);
        none("0 - 65536 * 65536 + c0", 5, 0, 9);
    }

    // ---- Promise 22

    private static void givesItAsPutDoes() {
        EXPECT.sentence("Seeks a number, and gives it to the input as put() does");
        GoalseekOffice office = office("c0 - 3");
        Written.give(office, 2, "c1 + c0");
        office.open();
        int before = office.foundAnew();
        EXPECT.same("seek() that finds 0 for an empty input", office.seek(1, -3, 0, 0, 9), 0);
        EXPECT.same("signs(0)", office.signs(0), 1);
        EXPECT.same("foundAnew()", office.foundAnew(), before + 3);
        EXPECT.same("seek() that finds the number that the input has", office.seek(1, -3, 0, 0, 9), 0);
        EXPECT.same("foundAnew() after it", office.foundAnew(), before + 6);
        EXPECT.same("seek() of 4", office.seek(1, 4, 0, 0, 9), 7);
        EXPECT.same("value(2)", office.value(2), 11);
        EXPECT.same("valueAnew(2)", office.valueAnew(2), 11);
        EXPECT.same("layers()", office.layers(), 1);
        EXPECT.same("drop()", office.drop(), 1);
        EXPECT.same("signs(0) after drop()", office.signs(0), 0);
        EXPECT.same("value(2) after drop()", office.value(2), -3);
    }

    private static void noSuchCell() {
        EXPECT.sentence("seek() throws IndexOutOfBoundsException if there is no such cell");
        GoalseekOffice office = office("c0");
        for (int no : new int[] {-1, 30, 32, Integer.MIN_VALUE, Integer.MAX_VALUE}) {
            EXPECT.fails(office, INDEX, "seek() of the goal " + no, () -> office.seek(no, 5, 0, 0, 9));
            EXPECT.fails(office, INDEX, "seek() with the input " + no, () -> office.seek(1, 5, no, 0, 9));
            EXPECT.fails(office, INDEX, "seek() of and with " + no, () -> office.seek(no, 5, no, 0, 9));
        }
    }

    private static void targets() {
        EXPECT.sentence("target: -1000000000 to 1000000000");
        found("c0 * 100000", 1000000000, 0, 999999, 10000);
        found("c0 * -100000", -1000000000, 0, 999999, 10000);
        found("c0", 0, 0, 9, 0);
        GoalseekOffice office = office("c0 * 100000");
        for (int wrong : new int[] {1000000001, -1000000001, Integer.MAX_VALUE, Integer.MIN_VALUE}) {
            EXPECT.fails(office, ARGUMENT, "seek() of the target " + wrong, () -> office.seek(1, wrong, 0, 0, 999999));
        }
    }

    private static void ranges() {
        EXPECT.sentence("low: 0 to 999999: the least number; high: low to 999999: the greatest number");
        found("c0", 3, 0, 999999, 3);
        found("c0", 999999, 999999, 999999, 999999);
        found("c0", 0, 0, 0, 0);
        GoalseekOffice office = office("c0");
        int[][] ranges = {{-1, 9}, {-1, -1}, {0, -1}, {5, 4}, {999999, 999998}, {0, 1000000}, {999999, 1000000},
            {1000000, 1000000}, {1000000, 999999}, {Integer.MIN_VALUE, 9}, {0, Integer.MAX_VALUE},
            {Integer.MIN_VALUE, Integer.MAX_VALUE}, {Integer.MAX_VALUE, Integer.MIN_VALUE}, {9, Integer.MIN_VALUE}};
        for (int[] range : ranges) {
            EXPECT.fails(office, ARGUMENT, "seek() from " + range[0] + " to " + range[1],
                () -> office.seek(1, 5, 0, range[0], range[1]));
        }
    }

    private static void notOnTheInput() {
        EXPECT.sentence("seek() throws IllegalStateException if the input is no single number, or the goal not on it");
        GoalseekOffice office = office("c0");
        EXPECT.fails(office, STATE, "seek() with an input that has a formula", () -> office.seek(1, 0, 1, 0, 9));
        EXPECT.fails(office, STATE, "seek() of a cell that does not depend", () -> office.seek(2, 0, 0, 0, 9));
        Written.give(office, 2, "c0");
        office.put(1, 7);
        EXPECT.fails(office, STATE, "seek() of a cell that depends no more", () -> office.seek(1, 7, 0, 0, 9));
        EXPECT.same("seek() of one that does", office.seek(2, 7, 0, 0, 9), 7);
    }

    private static void nothingFound() {
        EXPECT.sentence("seek() throws NoSuchElementException if nothing is found");
        GoalseekOffice office = office("c0 + 0 / (c0 - 5)");
        office.put(0, 3);
        EXPECT.fails(office, NO_SUCH, "seek() where f(low) is faulty", () -> office.seek(1, 7, 0, 5, 9));
        EXPECT.fails(office, NO_SUCH, "seek() where f(high) is faulty", () -> office.seek(1, 3, 0, 0, 5));
        EXPECT.fails(office, NO_SUCH, "seek() where both are above", () -> office.seek(1, 5, 0, 6, 9));
        EXPECT.fails(office, NO_SUCH, "seek() where both are below", () -> office.seek(1, 5, 0, 0, 4));
        EXPECT.fails(office, NO_SUCH, "seek() where a half is faulty", () -> office.seek(1, 3, 0, 0, 10));
        EXPECT.same("seek() after them", office.seek(1, 8, 0, 6, 9), 8);
    }
}
