import java.util.NoSuchElementException;

/** Promise 22: a number is sought with which a goal reaches a target. */
public final class SeekTest {
    private static final Expect EXPECT = new Expect();

    public static void main(String[] args) {
        found();
        between();
        falling();
        edges();
        leap();
        nothingFound();
        faults();
        inputs();
        layersAndDraft();
        wrongArguments();
        orderOfExceptions();
        EXPECT.end();
    }

    /** An office whose cell 1 has the formula, over the input 0. */
    private static GoalseekOffice office(String formula) {
        GoalseekOffice office = new GoalseekOffice();
        Written.give(office, 1, formula);
        return office;
    }

    private static void seek(String formula, int target, int low, int high, int due) {
        GoalseekOffice office = office(formula);
        String call = "seek(1, " + target + ", 0, " + low + ", " + high + ") with " + formula;
        EXPECT.same(call, office.seek(1, target, 0, low, high), due);
        EXPECT.same("value(0) after " + call, office.value(0), due);
        EXPECT.same("signs(0) after " + call, office.signs(0), 1);
        EXPECT.same("value(1) after " + call, Asked.value(office, 1), Asked.valueAnew(office, 1));
    }

    private static void none(String formula, int target, int low, int high) {
        GoalseekOffice office = office(formula);
        office.put(0, 3);
        EXPECT.fails(office, NoSuchElementException.class,
                "seek(1, " + target + ", 0, " + low + ", " + high + ") with " + formula,
                () -> office.seek(1, target, 0, low, high));
    }

    private static void found() {
        seek("c0 * 7", 7 * 123456, 0, 999999, 123456);
        seek("c0 + c0 + 1", 11, 0, 100, 5);
        seek("c0 * c0", 99980001, 0, 999999, 9999);
        seek("c0 - 500", -500, 0, 999999, 0);
        seek("c0", 999999, 0, 999999, 999999);
    }

    /** Where no number reaches the target, high is what is found. */
    private static void between() {
        seek("c0 * 2", 7, 0, 100, 4);
        seek("c0 * c0", 101, 0, 999, 11);
        seek("100 - c0 * 3", 50, 0, 30, 17);
        seek("c0 / 10", 5, 0, 999, 50);
    }

    private static void falling() {
        seek("1000 - c0", 1, 0, 1000, 999);
        seek("-c0", -77, 0, 999999, 77);
        seek("1000 / c0", 3, 1, 1000, 251);
    }

    private static void edges() {
        seek("c0", 5, 5, 5, 5);
        seek("c0", 5, 5, 6, 5);
        seek("c0", 6, 5, 6, 6);
        seek("c0", 0, 0, 0, 0);
        seek("c0 * 3", 16, 5, 6, 6);
        seek("c0", 999999, 999999, 999999, 999999);
        seek("c0 * 100000", 1000000000, 0, 999999, 10000);
        seek("-c0 * 100000", -1000000000, 0, 999999, 10000);
        none("c0", 5, 4, 4);
        none("c0", 5, 6, 6);
    }

    /** Values that are not in order: the search goes as the document tells it, step by step. */
    private static void leap() {
        // f(x) = (x - 4) * (x - 8): f(0) = 32, f(10) = 12, so both are above 5.
        none("(c0 - 4) * (c0 - 8)", 5, 0, 10);
        // f(6) = -4 is below; f(3) = 5 is the target and f(0) above, so high becomes 3, then x = 1, then 2.
        seek("(c0 - 4) * (c0 - 8)", 5, 0, 6, 3);
        // Low reaches the target at once and is found though others do too.
        seek("c0 * (c0 - 9)", 0, 0, 9, 0);
        seek("c0 * 0", 0, 0, 999999, 0);
        seek("c0 * 0 + 4", 4, 17, 999999, 17);
        // f(0) = 0 is the target, and f(9) = 9 is above: low stays.
        seek("c0", 0, 0, 9, 0);
        // f(low) is the target only at high: low goes up while f(x) is below.
        seek("c0 / 9", 1, 0, 9, 9);
    }

    private static void nothingFound() {
        none("c0", -5, 0, 9);
        none("c0", 10, 0, 9);
        none("c0 * 0 + 3", 4, 0, 999999);
        none("c0 * 0 + 3", 2, 0, 999999);
        none("c0", -1000000000, 0, 999999);
        none("c0", 1000000000, 0, 999999);
    }

    private static void faults() {
        none("100 / c0", 5, 0, 50);
        none("100 / (50 - c0)", 5, 0, 50);
        // One end is faulty, and the other is not on the side on which a faulty one might be taken to be.
        none("100 / c0", 1, 0, 50);
        none("100 / (50 - c0)", 1, 0, 50);
        none("-100 / c0", -1, 0, 50);
        none("-100 / (50 - c0)", -1, 0, 50);
        // Half of 0 and 5 is 2, not 3, where the divisor is 0.
        seek("c0 + 0 / (c0 - 3)", 1, 0, 5, 1);
        none("c0 + 0 / (c0 - 2)", 1, 0, 5);
        // The middle of 0 and 50 is 25, where the divisor is 0, though low already reaches the target.
        none("0 / (25 - c0)", 0, 0, 50);
        none("100 / (25 - c0)", 0, 0, 50);
        // The search comes to 24, where the divisor is 0; with the other target it does not.
        none("100 / (24 - c0)", 1, 0, 50);
        seek("100 / (24 - c0)", 4, 0, 50, 0);
        none("c0 * 999999 * 9", 9, 0, 999999);
        GoalseekOffice office = office("c0 + c5 * 0");
        Written.give(office, 5, "1 / 0");
        EXPECT.fails(office, NoSuchElementException.class, "seek() with a faulty cell beside the input",
                () -> office.seek(1, 5, 0, 0, 9));
        // A fault between the cells, but not on the way from the input to the goal, plays no part.
        office.put(5, 0);
        Written.give(office, 6, "1 / c0");
        Written.give(office, 7, "1 / 0");
        EXPECT.same("seek() with faulty cells elsewhere", office.seek(1, 0, 0, 0, 9), 0);
        EXPECT.same("faulty() after it", office.faulty(), 2);
    }

    private static void inputs() {
        GoalseekOffice office = office("c0 + c2");
        EXPECT.same("seek() with an empty input", office.seek(1, 5, 0, 0, 9), 5);
        EXPECT.same("seek() with a number", office.seek(1, 6, 0, 0, 9), 6);
        EXPECT.same("seek() with another input", office.seek(1, 8, 2, 0, 9), 2);
        for (String input : new String[] {"-3", "(3)", "1 + 2", "c9", "--3"}) {
            Written.give(office, 0, input);
            EXPECT.fails(office, IllegalStateException.class, "seek() with the input " + input,
                    () -> office.seek(1, 5, 0, 0, 9));
        }
        Written.give(office, 0, "3");
        EXPECT.same("seek() with a number that set() gave", office.seek(1, 7, 0, 0, 9), 5);
        EXPECT.fails(office, IllegalStateException.class, "seek() of itself", () -> office.seek(0, 5, 0, 0, 9));
        EXPECT.fails(office, IllegalStateException.class, "seek() of a cell that does not depend",
                () -> office.seek(3, 0, 0, 0, 9));
        Written.give(office, 20, "c1");
        Written.give(office, 4, "c20 * 10 - c0");
        EXPECT.same("seek() over other cells", office.seek(4, 100, 0, 0, 50), 9);
        EXPECT.same("value(4) after it", office.value(4), 101);
        Written.give(office, 0, "c9");
        EXPECT.same("seek() below a chain", office.seek(4, 101, 9, 0, 50), 9);
        EXPECT.same("value(0) after it", office.value(0), 9);
    }

    private static void layersAndDraft() {
        GoalseekOffice office = office("c0 * 2");
        office.open();
        Written.draft(office, "1 +");
        EXPECT.same("seek(1, 8, 0, 0, 9)", office.seek(1, 8, 0, 0, 9), 4);
        EXPECT.same("drafted() after seek()", office.drafted(), 2);
        EXPECT.same("layers() after seek()", office.layers(), 1);
        EXPECT.same("drop() after seek()", office.drop(), 1);
        EXPECT.same("signs(0) after drop()", office.signs(0), 0);
        EXPECT.same("value(1) after drop()", office.value(1), 0);
    }

    private static void wrongArguments() {
        GoalseekOffice office = office("c0");
        for (int wrong : new int[] {-1, 30, Integer.MIN_VALUE, Integer.MAX_VALUE}) {
            EXPECT.fails(office, IndexOutOfBoundsException.class, "seek() of the goal " + wrong,
                    () -> office.seek(wrong, 5, 0, 0, 9));
            EXPECT.fails(office, IndexOutOfBoundsException.class, "seek() with the input " + wrong,
                    () -> office.seek(1, 5, wrong, 0, 9));
        }
        for (int wrong : new int[] {-1000000001, 1000000001, Integer.MIN_VALUE, Integer.MAX_VALUE}) {
            EXPECT.fails(office, IllegalArgumentException.class, "seek() of the target " + wrong,
                    () -> office.seek(1, wrong, 0, 0, 9));
        }
        int[][] ranges = {{-1, 9}, {-2, -1}, {5, 4}, {999999, 0}, {0, 1000000}, {1000000, 1000000}, {0, -1},
            {Integer.MIN_VALUE, Integer.MAX_VALUE}, {Integer.MAX_VALUE, Integer.MIN_VALUE}};
        for (int[] range : ranges) {
            EXPECT.fails(office, IllegalArgumentException.class, "seek() from " + range[0] + " to " + range[1],
                    () -> office.seek(1, 5, 0, range[0], range[1]));
        }
    }

    private static void orderOfExceptions() {
        GoalseekOffice office = office("c0");
        EXPECT.fails(office, IndexOutOfBoundsException.class, "seek() with no cell and a wrong target",
                () -> office.seek(1, Integer.MAX_VALUE, 30, 5, 4));
        EXPECT.fails(office, IllegalArgumentException.class, "seek() with a wrong target and no dependency",
                () -> office.seek(2, Integer.MAX_VALUE, 0, 0, 9));
        EXPECT.fails(office, IllegalArgumentException.class, "seek() with a wrong range and no input",
                () -> office.seek(2, 5, 1, 5, 4));
        EXPECT.fails(office, IllegalStateException.class, "seek() with no dependency and nothing to be found",
                () -> office.seek(2, 5, 0, 0, 4));
    }
}
