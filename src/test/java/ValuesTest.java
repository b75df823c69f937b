/** Promises 15, 16 and 20: values, values worked out anew, and faulty cells. */
public final class ValuesTest {
    private static final Expect EXPECT = new Expect();

    public static void main(String[] args) {
        order();
        rounding();
        minus();
        range();
        divisionByNothing();
        faultsAreHandedOn();
        faultyCells();
        longChain();
        wrongCells();
        EXPECT.end();
    }

    private static void value(String formula, String due) {
        EXPECT.same(formula, Written.value(formula), due);
    }

    private static void order() {
        value("1 + 2 * 3", "7");
        value("(1 + 2) * 3", "9");
        value("10 - 3 - 4", "3");
        value("10 - (3 - 4)", "11");
        value("100 / 7 / 3", "4");
        value("100 / (7 / 3)", "50");
        value("7 / 2 * 2", "6");
        value("2 * 7 / 2", "7");
        value("2 * 3 + 4 * 5", "26");
        value("20 - 8 / 4 * 3", "14");
        value("c0 * c0 - c0", "20");
        value("((((((c0))))))", "5");
        value("c28 + 3", "3");
    }

    private static void rounding() {
        value("7 / 2", "3");
        value("-7 / 2", "-4");
        value("7 / -2", "-4");
        value("-7 / -2", "3");
        value("-(7 / 2)", "-3");
        value("0 - 7 / 2", "-3");
        value("(0 - 7) / 2", "-4");
        value("-6 / 2", "-3");
        value("-1 / 999999", "-1");
        value("1 / 999999", "0");
        value("0 / 3", "0");
        value("0 / -3", "0");
        value("5 / 1", "5");
    }

    private static void minus() {
        value("-c0", "-5");
        value("--c0", "5");
        value("---c0", "-5");
        value("-------------c0", "-5");
        value("3 - -c0", "8");
        value("3 * -c0", "-15");
        value("-2 * 3", "-6");
        value("-(2 - 9)", "7");
        value("-(-(-4))", "-4");
        value("-0", "0");
    }

    private static void range() {
        value("999999 * 999999 + 999999 + 999999", "999999999999");
        value("999999 * 999999 + 999999 + 999999 + 1", "1000000000000");
        value("999999 * 999999 + 999999 + 999999 + 2", "faulty");
        value("0 - 999999 * 999999 - 999999 - 999999 - 1", "-1000000000000");
        value("0 - 999999 * 999999 - 999999 - 999999 - 2", "faulty");
        value("999999 * 999999 + 999999 + 999999 + 2 - 2", "faulty");
        value("100000 * 100000 * 100", "1000000000000");
        value("-100000 * 100000 * 100", "-1000000000000");
        value("-(100000 * 100000 * 100)", "-1000000000000");
        value("100000 * 100000 * 100 * -1", "-1000000000000");
        value("100000 * 100000 * 100 / -1", "-1000000000000");
        value("100000 * 100000 * 101", "faulty");
        value("100000 * 100000 * 101 / 101", "faulty");
        value("100000 * 100000 * 101 * 0", "faulty");
        value("100000 * 100000 * -101", "faulty");
        value("100000 * 100000 * 100 * 2", "faulty");
        value("333333 * 3 * 999999 * 1", "999998000001");
        // Products that a long does not hold: one wraps round to a number in range.
        value("(65536 * 65536) * (65536 * 65536)", "faulty");
        value("(100000 * 100000 * 100) * (100000 * 100000 * 100)", "faulty");
        value("(999999 * 999999) * -(999999 * 999999)", "faulty");
        value("0 * (100000 * 100000 * 100)", "0");
        value("(100000 * 100000 * 100) * 0", "0");
    }

    private static void divisionByNothing() {
        value("1 / 0", "faulty");
        value("0 / 0", "faulty");
        value("1 / -0", "faulty");
        value("1 / (c0 - 5)", "faulty");
        value("1 / c28", "faulty");
        value("c28 / c28", "faulty");
        value("3 + 0 * (1 / 0)", "faulty");
        value("1 / (1 / 2)", "faulty");
    }

    private static void faultsAreHandedOn() {
        value("c1", "faulty");
        value("-c1", "faulty");
        value("c1 * 0", "faulty");
        value("0 * c1", "faulty");
        value("0 / c1", "faulty");
        value("c1 - c1", "faulty");
        value("1 + c1", "faulty");
        value("(c1)", "faulty");
        value("--c1", "faulty");
    }

    private static void faultyCells() {
        GoalseekOffice office = new GoalseekOffice();
        Written.give(office, 0, "1 / c5");
        Written.give(office, 1, "c0 + 1");
        Written.give(office, 2, "c1 * 0");
        EXPECT.same("faulty()", office.faulty(), 3);
        EXPECT.fails(office, ArithmeticException.class, "value(2)", () -> office.value(2));
        EXPECT.fails(office, ArithmeticException.class, "valueAnew(2)", () -> office.valueAnew(2));
        office.put(5, 1);
        EXPECT.same("faulty() after it is mended", office.faulty(), 0);
        EXPECT.same("value(1) after it is mended", office.value(1), 2);
        EXPECT.same("valueAnew(1) after it is mended", office.valueAnew(1), 2);
        office.clear(5);
        EXPECT.same("faulty() after clear(5)", office.faulty(), 3);
        office.put(1, 3);
        EXPECT.same("faulty() after put(1, 3)", office.faulty(), 1);
        EXPECT.same("value(2) after put(1, 3)", office.value(2), 0);
        Written.give(office, 29, "c0");
        EXPECT.same("faulty() after set(29)", office.faulty(), 2);
    }

    /** A chain against the order of the cells' numbers, so that none is worked out before its turn. */
    private static void longChain() {
        GoalseekOffice office = new GoalseekOffice();
        for (int cell = 0; cell < 29; cell++) {
            Written.give(office, cell, "c" + (cell + 1) + " + 1");
        }
        EXPECT.same("put(29, 100)", office.put(29, 100), 30);
        EXPECT.same("value(0)", office.value(0), 129);
        EXPECT.same("valueAnew(0)", office.valueAnew(0), 129);
        EXPECT.same("valueAnew(28)", office.valueAnew(28), 101);
        EXPECT.same("value(0) after valueAnew()", office.value(0), 129);
        EXPECT.same("value(29)", office.value(29), 100);
        office.clear(15);
        EXPECT.same("value(0) after clear(15)", office.value(0), 15);
        EXPECT.same("value(16) after clear(15)", office.value(16), 113);
    }

    private static void wrongCells() {
        GoalseekOffice office = new GoalseekOffice();
        for (int wrong : new int[] {-1, 30, Integer.MIN_VALUE, Integer.MAX_VALUE}) {
            EXPECT.fails(office, IndexOutOfBoundsException.class, "value(" + wrong + ")", () -> office.value(wrong));
            EXPECT.fails(office, IndexOutOfBoundsException.class, "valueAnew(" + wrong + ")",
                    () -> office.valueAnew(wrong));
        }
    }
}
