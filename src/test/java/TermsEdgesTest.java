import java.util.NoSuchElementException;

/** Each sentence of "What it is", "The public face" and "Terms" (but for seeking) that names a boundary case. */
public final class TermsEdgesTest {
    private static final Expect EXPECT = new Expect();
    private static final Class<IndexOutOfBoundsException> INDEX = IndexOutOfBoundsException.class;
    private static final Class<IllegalArgumentException> ARGUMENT = IllegalArgumentException.class;
    private static final Class<IllegalStateException> STATE = IllegalStateException.class;
    // 31, 32 and 64 are among them as a set of cells may be held as bits.
    private static final int[] NO_CELLS = {-1, 30, 31, 32, 64, -30, -32, Integer.MIN_VALUE, Integer.MAX_VALUE};

    public static void main(String[] args) {
        EXPECT.test(TermsEdgesTest::manyCalls);
        EXPECT.test(TermsEdgesTest::callsThatAsk);
        EXPECT.test(TermsEdgesTest::cellsThatAre);
        EXPECT.test(TermsEdgesTest::cellsThatAreNot);
        EXPECT.test(TermsEdgesTest::longestFormula);
        EXPECT.test(TermsEdgesTest::codes);
        EXPECT.test(TermsEdgesTest::sums);
        EXPECT.test(TermsEdgesTest::products);
        EXPECT.test(TermsEdgesTest::factors);
        EXPECT.test(TermsEdgesTest::fromTheLeft);
        EXPECT.test(TermsEdgesTest::rangeOfSums);
        EXPECT.test(TermsEdgesTest::rangeOfProducts);
        EXPECT.test(TermsEdgesTest::rangeOfQuotientsAndMinus);
        EXPECT.test(TermsEdgesTest::rangeAtAnyStep);
        EXPECT.test(TermsEdgesTest::productsThatWrapRound);
        EXPECT.test(TermsEdgesTest::emptyCells);
        EXPECT.test(TermsEdgesTest::divisionByNothing);
        EXPECT.test(TermsEdgesTest::faultyReferences);
        EXPECT.test(TermsEdgesTest::quotients);
        EXPECT.test(TermsEdgesTest::dependencies);
        EXPECT.test(TermsEdgesTest::noCellOnItself);
        EXPECT.test(TermsEdgesTest::levels);
        EXPECT.test(TermsEdgesTest::mostLayers);
        EXPECT.test(TermsEdgesTest::allCellsAreRemembered);
        EXPECT.test(TermsEdgesTest::dropsOneAboveTheOther);
        EXPECT.test(TermsEdgesTest::keptFormulasStay);
        EXPECT.test(TermsEdgesTest::openNoMore);
        EXPECT.test(TermsEdgesTest::draftIsApart);
        EXPECT.test(TermsEdgesTest::refusedDraftCalls);
        EXPECT.test(TermsEdgesTest::refusedCellCalls);
        EXPECT.test(TermsEdgesTest::refusedLayerCalls);
        EXPECT.test(TermsEdgesTest::firstOfSeveral);
        EXPECT.test(TermsEdgesTest::none);
        EXPECT.end();
    }

    // ---- What it is

    private static void manyCalls() {
        EXPECT.sentence("An object is used for at most 512 calls");
        GoalseekOffice office = new GoalseekOffice();
        for (int cell = 0; cell < 29; cell++) {
            office.cell(cell + 1);
            office.set(cell);
        }
        for (int call = 59; call < 512; call++) {
            EXPECT.same("put() as the " + call + "th call", office.put(29, call), 30);
        }
        EXPECT.same("foundAnew() as the 512th call", office.foundAnew(), 29 * 30 / 2 + 453 * 30);
        GoalseekOffice layered = new GoalseekOffice();
        for (int call = 1; call < 512; call += 2) {
            EXPECT.same("open() as the " + call + "th call", layered.open(), 1);
            EXPECT.same("drop() as the next call", layered.drop(), 0);
        }
        GoalseekOffice sought = new GoalseekOffice();
        sought.cell(0);
        sought.set(1);
        for (int call = 3; call <= 512; call++) {
            EXPECT.same("seek() as the " + call + "th call", sought.seek(1, call, 0, 0, 999999), call);
        }
    }

    // ---- Terms: cells and formulas

    private static void callsThatAsk() {
        EXPECT.sentence("Calls that ask change nothing");
        GoalseekOffice office = new GoalseekOffice();
        Written.give(office, 1, "1 / c0");
        Written.give(office, 2, "c3 + 4");
        office.open();
        Written.draft(office, "c2 * 2 )");
        String before = Asked.all(office);
        for (int turn = 0; turn < 2; turn++) {
            EXPECT.same("fault()", office.fault(), 3);
            EXPECT.same("drafted()", office.drafted(), 4);
            EXPECT.same("layers()", office.layers(), 1);
            EXPECT.same("value(2)", office.value(2), 4);
            EXPECT.same("valueAnew(2)", office.valueAnew(2), 4);
            EXPECT.fails(office, ArithmeticException.class, "value(1)", () -> office.value(1));
            EXPECT.fails(office, ArithmeticException.class, "valueAnew(1)", () -> office.valueAnew(1));
            EXPECT.same("signs(1)", office.signs(1), 3);
            EXPECT.same("level(1)", office.level(1), 1);
            EXPECT.same("depends(1, 0)", office.depends(1, 0), true);
            EXPECT.same("faulty()", office.faulty(), 1);
            EXPECT.same("foundAnew()", office.foundAnew(), 2);
        }
        EXPECT.same("all that can be asked", Asked.all(office), before);
    }

    private static void cellsThatAre() {
        EXPECT.sentence("Cells are numbered 0 to 29");
        for (int cell : new int[] {0, 29}) {
            GoalseekOffice office = new GoalseekOffice();
            int other = 29 - cell;
            String name = "(" + cell + ")";
            EXPECT.same("cell(" + other + ")", office.cell(other), 1);
            EXPECT.same("set" + name, office.set(cell), 1);
            EXPECT.same("put(" + other + ", 7)", office.put(other, 7), 2);
            EXPECT.same("value" + name, office.value(cell), 7);
            EXPECT.same("valueAnew" + name, office.valueAnew(cell), 7);
            EXPECT.same("signs" + name, office.signs(cell), 1);
            EXPECT.same("level" + name, office.level(cell), 1);
            EXPECT.same("depends() of " + cell + " and the other", office.depends(cell, other), true);
            EXPECT.same("depends() of the other and " + cell, office.depends(other, cell), false);
            EXPECT.same("seek() of " + cell, office.seek(cell, 9, other, 0, 99), 9);
            EXPECT.same("clear(" + other + ")", office.clear(other), 2);
            EXPECT.same("clear" + name, office.clear(cell), 1);
            EXPECT.same("signs" + name + " then", office.signs(cell), 0);
        }
    }

    private static void cellsThatAreNot() {
        EXPECT.sentence("Cells are numbered 0 to 29: no others");
        GoalseekOffice office = new GoalseekOffice();
        Written.give(office, 1, "c0");
        Written.draft(office, "1");
        for (int no : NO_CELLS) {
            EXPECT.fails(office, INDEX, "cell(" + no + ")", () -> office.cell(no));
            EXPECT.fails(office, INDEX, "set(" + no + ")", () -> office.set(no));
            EXPECT.fails(office, INDEX, "put(" + no + ", 1)", () -> office.put(no, 1));
            EXPECT.fails(office, INDEX, "clear(" + no + ")", () -> office.clear(no));
            EXPECT.fails(office, INDEX, "value(" + no + ")", () -> office.value(no));
            EXPECT.fails(office, INDEX, "valueAnew(" + no + ")", () -> office.valueAnew(no));
            EXPECT.fails(office, INDEX, "signs(" + no + ")", () -> office.signs(no));
            EXPECT.fails(office, INDEX, "level(" + no + ")", () -> office.level(no));
            EXPECT.fails(office, INDEX, "depends(" + no + ", 0)", () -> office.depends(no, 0) ? 1 : 0);
            EXPECT.fails(office, INDEX, "depends(1, " + no + ")", () -> office.depends(1, no) ? 1 : 0);
            EXPECT.fails(office, INDEX, "depends() of " + no + " twice", () -> office.depends(no, no) ? 1 : 0);
            EXPECT.fails(office, INDEX, "seek() of the goal " + no, () -> office.seek(no, 1, 0, 0, 9));
            EXPECT.fails(office, INDEX, "seek() with the input " + no, () -> office.seek(1, 1, no, 0, 9));
        }
    }

    private static void longestFormula() {
        EXPECT.sentence("A cell is empty, or has a formula of at most 15 signs");
        GoalseekOffice office = new GoalseekOffice();
        EXPECT.same("signs(29) of an empty cell", office.signs(29), 0);
        EXPECT.same("set(29) of 1 sign", Written.give(office, 29, "7"), 1);
        EXPECT.same("signs(29) of 1 sign", office.signs(29), 1);
        EXPECT.same("set(29) of 14 signs", Written.give(office, 29, "-1-2-3-4-5-6-7"), 1);
        EXPECT.same("signs(29) of 14 signs", office.signs(29), 14);
        EXPECT.same("value(29) of 14 signs", office.value(29), -28);
        EXPECT.same("set(29) of 15 signs", Written.give(office, 29, "1+2+3+4+5+6+7+8"), 1);
        EXPECT.same("signs(29) of 15 signs", office.signs(29), 15);
        EXPECT.same("value(29) of 15 signs", office.value(29), 36);
        EXPECT.same("set(29) of 15 signs in brackets", Written.give(office, 29, "(((((((42)))))))"), 1);
        EXPECT.same("value(29) of 15 signs in brackets", office.value(29), 42);
        EXPECT.same("set(29) of 14 minus", Written.give(office, 29, "--------------42"), 1);
        EXPECT.same("value(29) of 14 minus", office.value(29), 42);
    }

    private static void codes() {
        EXPECT.sentence("0 plus, 1 minus, 2 times, 3 divided by, 4 an opening bracket, 5 a closing bracket");
        long[] due = {9, 5, 14, 3};
        for (int code = 0; code < due.length; code++) {
            GoalseekOffice office = new GoalseekOffice();
            office.number(7);
            office.sign(code);
            office.number(2);
            office.set(0);
            EXPECT.same("7 and 2 with " + code + " between them", office.value(0), due[code]);
        }
        GoalseekOffice office = new GoalseekOffice();
        office.sign(4);
        office.number(8);
        EXPECT.same("fault() of 4 and a number", office.fault(), 2);
        office.sign(5);
        EXPECT.same("fault() of 4, a number and 5", office.fault(), GoalseekOffice.NONE);
        for (int wrong : new int[] {-1, 6}) {
            EXPECT.fails(office, ARGUMENT, "sign(" + wrong + ")", () -> office.sign(wrong));
        }
    }

    private static void fault(String draft, int due) {
        GoalseekOffice office = new GoalseekOffice();
        Written.draft(office, draft);
        EXPECT.same("fault() of " + draft, office.fault(), due);
    }

    private static void sums() {
        EXPECT.sentence("A formula is a sum: one or more products, with plus or minus between them");
        fault("", 0);
        fault("2 * 3", -1);
        fault("2 * 3 + 4", -1);
        fault("2 - 3 / 4 + 5", -1);
        fault("2 +", 2);
        fault("2 -", 2);
        fault("+ 2", 0);
        fault("2 + + 3", 2);
        fault("2 - + 3", 2);
        fault("2 3", 1);
    }

    private static void products() {
        EXPECT.sentence("A product is one or more factors, with times or divided by between them");
        fault("2", -1);
        fault("2 * c3", -1);
        fault("2 * c3 / 4", -1);
        fault("2 *", 2);
        fault("2 /", 2);
        fault("* 2", 0);
        fault("/ 2", 0);
        fault("2 * * 3", 2);
        fault("2 / * 3", 2);
        fault("2 + * 3", 2);
        fault("2 ( 3 )", 1);
        fault("( 2 ) c3", 3);
    }

    private static void factors() {
        EXPECT.sentence("A factor is a number, a cell, a minus and a factor behind it, or a sum in brackets");
        fault("0", -1);
        fault("c0", -1);
        fault("- 1", -1);
        fault("- - c1", -1);
        fault("- ( 1 - 2 )", -1);
        fault("2 * - 3", -1);
        fault("2 - - 3", -1);
        fault("( - 1 )", -1);
        fault("( ( 1 ) )", -1);
        fault("-", 1);
        fault("- - -", 3);
        fault("- + 1", 1);
        fault("- * 1", 1);
        fault("- )", 1);
        fault("( )", 1);
        fault("( 1 + )", 3);
        fault("( 1", 2);
        fault("( ( 1 )", 4);
        fault("1 )", 1);
        fault("( 1 ) )", 3);
    }

    private static void value(String formula, long due) {
        EXPECT.same(formula, Written.value(formula), Long.toString(due));
    }

    private static void faulty(String formula) {
        EXPECT.same(formula, Written.value(formula), "faulty");
    }

    private static void fromTheLeft() {
        EXPECT.sentence("Sums and products are worked out from the left");
        value("9 - 4 - 3", 2);
        value("9 - 4 + 3", 8);
        value("100 / 7 / 3", 4);
        value("100 / 7 * 3", 42);
        value("3 * 100 / 7", 42);
        value("9 - 2 * 3 - 1", 2);
        value("7 / 2 + 7 / 2", 6);
        value("9 - (4 - 3)", 8);
        value("-7 / 2 * 2", -8);
    }

    // ---- Terms: values

    /** As value(), where cell 2 has the greatest value, cell 3 the least one and cell 4 the value 2 to the power 32. */
    private static void atTheEnds(String formula, String due) {
        GoalseekOffice office = new GoalseekOffice();
        Written.give(office, 2, "100000 * 100000 * 100");
        Written.give(office, 3, "0 - c2");
        Written.give(office, 4, "65536 * 65536");
        Written.give(office, 29, formula);
        EXPECT.same(formula, Asked.value(office, 29), due);
        EXPECT.same(formula + " anew", Asked.valueAnew(office, 29), due);
        EXPECT.same("faulty() of " + formula, office.faulty(), due.equals("faulty") ? 1 : 0);
    }

    private static void rangeOfSums() {
        EXPECT.sentence("Values are whole numbers from -1000000000000 to 1000000000000: sums");
        atTheEnds("c2", "1000000000000");
        atTheEnds("c3", "-1000000000000");
        atTheEnds("c2 + 0", "1000000000000");
        atTheEnds("c2 - 1 + 1", "1000000000000");
        atTheEnds("c2 + 1", "faulty");
        atTheEnds("1 + c2", "faulty");
        atTheEnds("c2 - -1", "faulty");
        atTheEnds("c2 + c2", "faulty");
        atTheEnds("c2 - c3", "faulty");
        atTheEnds("c3 - 0", "-1000000000000");
        atTheEnds("c3 + 1 - 1", "-1000000000000");
        atTheEnds("c3 - 1", "faulty");
        atTheEnds("c3 + -1", "faulty");
        atTheEnds("-1 - c2", "faulty");
        atTheEnds("c3 + c3", "faulty");
        atTheEnds("c2 + c3", "0");
        atTheEnds("c3 - c3", "0");
    }

    private static void rangeOfProducts() {
        EXPECT.sentence("Values are whole numbers from -1000000000000 to 1000000000000: products");
        atTheEnds("c2 * 1", "1000000000000");
        atTheEnds("c2 * -1", "-1000000000000");
        atTheEnds("-1 * c2", "-1000000000000");
        atTheEnds("c3 * -1", "1000000000000");
        atTheEnds("-1 * c3", "1000000000000");
        atTheEnds("c2 * 0", "0");
        atTheEnds("0 * c3", "0");
        atTheEnds("c2 / 2 * 2", "1000000000000");
        atTheEnds("(c2 / 2 + 1) * 2", "faulty");
        atTheEnds("2 * (c2 / 2 + 1)", "faulty");
        atTheEnds("(c3 / 2 - 1) * 2", "faulty");
        atTheEnds("-2 * (c2 / 2 + 1)", "faulty");
        atTheEnds("c2 * 2", "faulty");
        atTheEnds("c3 * 2", "faulty");
        atTheEnds("2 * c3", "faulty");
    }

    private static void rangeOfQuotientsAndMinus() {
        EXPECT.sentence("Values are whole numbers from -1000000000000 to 1000000000000: quotients and minus");
        atTheEnds("c2 / 1", "1000000000000");
        atTheEnds("c2 / -1", "-1000000000000");
        atTheEnds("c3 / 1", "-1000000000000");
        atTheEnds("c3 / -1", "1000000000000");
        atTheEnds("c2 / c3", "-1");
        atTheEnds("c3 / c3", "1");
        atTheEnds("1 / c2", "0");
        atTheEnds("1 / c3", "-1");
        atTheEnds("-c2", "-1000000000000");
        atTheEnds("-c3", "1000000000000");
        atTheEnds("--c3", "-1000000000000");
    }

    private static void rangeAtAnyStep() {
        EXPECT.sentence("A cell whose formula comes to a number out of this range at any step is faulty");
        atTheEnds("c2 + 1 - 1", "faulty");
        atTheEnds("c3 - 1 + 1", "faulty");
        atTheEnds("c2 * 2 / 2", "faulty");
        atTheEnds("c2 * 2 * 0", "faulty");
        atTheEnds("0 * (c2 + 1)", "faulty");
        atTheEnds("1 - (c3 - 1)", "faulty");
        atTheEnds("0 / (c2 * 2)", "faulty");
        atTheEnds("(c2 + 1) / (c2 + 1)", "faulty");
        atTheEnds("1 - 1 + c2", "1000000000000");
    }

    private static void productsThatWrapRound() {
        EXPECT.sentence("A number out of this range, where a long would wrap round into it");
        atTheEnds("c4 * c4", "faulty");
        atTheEnds("c4 * -c4", "faulty");
        atTheEnds("-c4 * c4", "faulty");
        atTheEnds("-c4 * -c4", "faulty");
        atTheEnds("(c4 - 1) * (c4 + 1)", "faulty");
        atTheEnds("(c4 * 4) * (c4 / 4)", "faulty");
        atTheEnds("(c4 / 4) * (c4 * 4)", "faulty");
        atTheEnds("c4 * (c4 / 2)", "faulty");
        atTheEnds("c4 * (c4 / -2)", "faulty");
        atTheEnds("c2 * c2", "faulty");
        atTheEnds("c2 * c3", "faulty");
        atTheEnds("c3 * c3", "faulty");
    }

    private static void emptyCells() {
        EXPECT.sentence("An empty cell has the value 0");
        GoalseekOffice office = new GoalseekOffice();
        EXPECT.same("value(7)", office.value(7), 0);
        EXPECT.same("valueAnew(7)", office.valueAnew(7), 0);
        Written.give(office, 6, "c7 * 5 + c7 + 3");
        EXPECT.same("value(6) over an empty cell", office.value(6), 3);
        office.put(7, 4);
        office.clear(7);
        EXPECT.same("value(7) after clear(7)", office.value(7), 0);
        EXPECT.same("valueAnew(7) after clear(7)", office.valueAnew(7), 0);
        EXPECT.same("value(6) after clear(7)", office.value(6), 3);
        Written.give(office, 7, "1 / 0");
        office.clear(7);
        EXPECT.same("value(7), faulty before clear(7)", office.value(7), 0);
        EXPECT.same("value(6) after it", office.value(6), 3);
    }

    private static void divisionByNothing() {
        EXPECT.sentence("A cell whose formula divides by 0 is faulty itself, and has no value");
        faulty("1 / 0");
        faulty("0 / 0");
        faulty("5 / -0");
        faulty("5 / c28");
        faulty("5 / (c0 - 5)");
        faulty("5 / (1 / 2)");
        faulty("0 * (5 / 0)");
        faulty("5 / 0 * 0");
        value("5 / (-1 / 2)", -5);
        GoalseekOffice office = new GoalseekOffice();
        Written.give(office, 3, "5 / 0");
        EXPECT.fails(office, ArithmeticException.class, "value(3)", () -> office.value(3));
        EXPECT.fails(office, ArithmeticException.class, "valueAnew(3)", () -> office.valueAnew(3));
    }

    private static void faultyReferences() {
        EXPECT.sentence("A cell whose formula refers to a cell that is faulty is faulty itself");
        faulty("c1");
        faulty("-c1");
        faulty("c1 * 0");
        faulty("0 * c1");
        faulty("0 / c1");
        faulty("c1 / c1");
        faulty("c1 - c1");
        faulty("c0 + (3 - c1)");
        GoalseekOffice office = new GoalseekOffice();
        Written.give(office, 29, "1 / 0");
        for (int cell = 28; cell >= 0; cell--) {
            Written.give(office, cell, "0 * c" + (cell + 1));
        }
        EXPECT.same("faulty() of a chain", office.faulty(), 30);
        EXPECT.fails(office, ArithmeticException.class, "valueAnew(0)", () -> office.valueAnew(0));
        office.put(29, 1);
        EXPECT.same("faulty() of the chain when it is mended", office.faulty(), 0);
        EXPECT.same("value(0) when it is mended", office.value(0), 0);
    }

    private static void quotients() {
        EXPECT.sentence("A quotient is rounded down to the lesser whole number, also below 0");
        value("7 / 2", 3);
        value("-7 / 2", -4);
        value("7 / -2", -4);
        value("-7 / -2", 3);
        value("6 / 2", 3);
        value("-6 / 2", -3);
        value("6 / -2", -3);
        value("-6 / -2", 3);
        value("1 / 999999", 0);
        value("-1 / 999999", -1);
        value("1 / -999999", -1);
        value("-1 / -999999", 0);
        value("0 / -3", 0);
        value("-(7 / 2)", -3);
    }

    // ---- Terms: dependencies and levels

    private static void dependencies() {
        EXPECT.sentence("A cell depends on the cells to which its formula refers, and on those on which these depend");
        GoalseekOffice up = new GoalseekOffice();
        GoalseekOffice down = new GoalseekOffice();
        for (int cell = 0; cell < 29; cell++) {
            Written.give(up, cell, "0 * c" + (cell + 1));
            Written.give(down, cell + 1, "0 * c" + cell);
        }
        for (int cell = 0; cell < 30; cell++) {
            for (int other = 0; other < 30; other++) {
                EXPECT.same("depends(" + cell + ", " + other + ") up", up.depends(cell, other), cell < other);
                EXPECT.same("depends(" + cell + ", " + other + ") down", down.depends(cell, other), cell > other);
            }
        }
        EXPECT.same("put(29, 1) up", up.put(29, 1), 30);
        EXPECT.same("put(0, 1) down", down.put(0, 1), 30);
        up.put(15, 1);
        EXPECT.same("depends(0, 29) after the chain is cut", up.depends(0, 29), false);
        EXPECT.same("depends(0, 15) after the chain is cut", up.depends(0, 15), true);
        EXPECT.same("depends(16, 29) after the chain is cut", up.depends(16, 29), true);
    }

    private static void noCellOnItself() {
        EXPECT.sentence("No cell depends on itself");
        for (int last : new int[] {0, 1, 2, 29}) {
            GoalseekOffice office = new GoalseekOffice();
            for (int cell = 1; cell <= last; cell++) {
                Written.give(office, cell, "c" + (cell - 1));
            }
            Written.draft(office, "1 + 0 * c" + last);
            EXPECT.fails(office, STATE, "set(0) over " + last + " other cells", () -> office.set(0));
            EXPECT.same("depends(0, 0)", office.depends(0, 0), false);
            EXPECT.same("depends() of the last one on itself", office.depends(last, last), false);
        }
        GoalseekOffice office = new GoalseekOffice();
        Written.give(office, 0, "c1");
        office.open();
        office.clear(0);
        EXPECT.same("set(1) the other way round", Written.give(office, 1, "c0"), 1);
        office.drop();
        EXPECT.same("depends(0, 1) after drop()", office.depends(0, 1), true);
        EXPECT.same("depends(1, 0) after drop()", office.depends(1, 0), false);
        Written.draft(office, "c0");
        EXPECT.fails(office, STATE, "set(1) after drop()", () -> office.set(1));
    }

    private static void levels() {
        EXPECT.sentence("The level of a cell is 0 if its formula refers to no cell, or it is empty; otherwise 1 more");
        GoalseekOffice office = new GoalseekOffice();
        Written.give(office, 1, "-(2 + 3) / 4");
        Written.give(office, 2, "c0");
        Written.give(office, 3, "c1 - c1");
        Written.give(office, 4, "c0 + c2 + c1");
        EXPECT.same("level(0) of an empty cell", office.level(0), 0);
        EXPECT.same("level(1) over no cell", office.level(1), 0);
        EXPECT.same("level(2) over an empty cell", office.level(2), 1);
        EXPECT.same("level(3) over a cell of level 0", office.level(3), 1);
        EXPECT.same("level(4) over cells of levels 0, 1 and 0", office.level(4), 2);
        GoalseekOffice up = new GoalseekOffice();
        GoalseekOffice down = new GoalseekOffice();
        for (int cell = 0; cell < 29; cell++) {
            Written.give(up, cell, "c29 + c" + (cell + 1));
            Written.give(down, cell + 1, "c0 + c" + cell);
        }
        for (int cell = 0; cell < 30; cell++) {
            EXPECT.same("level(" + cell + ") up", up.level(cell), 29 - cell);
            EXPECT.same("level(" + cell + ") down", down.level(cell), cell);
        }
    }

    // ---- Terms: layers and the draft

    private static void mostLayers() {
        EXPECT.sentence("At most 4 are open, one above the other");
        GoalseekOffice office = new GoalseekOffice();
        for (int count = 1; count <= 4; count++) {
            EXPECT.same("open()", office.open(), count);
        }
        EXPECT.fails(office, STATE, "open(), the 5th", () -> office.open());
        EXPECT.same("layers()", office.layers(), 4);
        office.drop();
        EXPECT.same("open() after drop()", office.open(), 4);
        office.keep();
        EXPECT.same("open() after keep()", office.open(), 4);
        EXPECT.fails(office, STATE, "open(), the 5th again", () -> office.open());
    }

    private static void allCellsAreRemembered() {
        EXPECT.sentence("When one is opened, the formulas of all cells are remembered");
        for (int first = 0; first <= 1; first++) {
            GoalseekOffice office = new GoalseekOffice();
            for (int cell = first; cell < 30; cell += 2) {
                office.put(cell, 100 + cell);
            }
            office.open();
            for (int cell = 0; cell < 30; cell++) {
                office.put(cell, 7);
            }
            EXPECT.same("drop()", office.drop(), 30);
            for (int cell = 0; cell < 30; cell++) {
                boolean hadNumber = cell % 2 == first;
                EXPECT.same("value(" + cell + ")", office.value(cell), hadNumber ? 100 + cell : 0);
                EXPECT.same("signs(" + cell + ")", office.signs(cell), hadNumber ? 1 : 0);
            }
        }
    }

    private static void dropsOneAboveTheOther() {
        EXPECT.sentence("When the topmost one is dropped, all cells have the formulas that they had");
        GoalseekOffice office = new GoalseekOffice();
        Written.give(office, 29, "c0 * 10");
        for (int layer = 1; layer <= 4; layer++) {
            office.put(0, layer);
            office.put(layer, 50);
            office.open();
        }
        office.put(0, 5);
        Written.give(office, 29, "1 / 0");
        for (int layer = 4; layer >= 1; layer--) {
            EXPECT.same("drop()", office.drop(), 2);
            EXPECT.same("value(0)", office.value(0), layer);
            EXPECT.same("value(29)", office.value(29), 10 * layer);
            EXPECT.same("signs(" + layer + ")", office.signs(layer), 1);
            EXPECT.same("signs(" + (layer + 1) + ")", office.signs(layer + 1), 0);
        }
    }

    private static void keptFormulasStay() {
        EXPECT.sentence("When it is kept, they stay as they are");
        GoalseekOffice office = new GoalseekOffice();
        office.put(0, 1);
        office.open();
        office.put(0, 2);
        office.open();
        office.put(0, 3);
        office.put(1, 4);
        int found = office.foundAnew();
        EXPECT.same("keep()", office.keep(), 1);
        EXPECT.same("foundAnew()", office.foundAnew(), found);
        EXPECT.same("value(0)", office.value(0), 3);
        EXPECT.same("value(1)", office.value(1), 4);
        EXPECT.same("drop() of the layer below", office.drop(), 2);
        EXPECT.same("value(0) after drop()", office.value(0), 1);
        EXPECT.same("signs(1) after drop()", office.signs(1), 0);
    }

    private static void openNoMore() {
        EXPECT.sentence("In both cases it is open no more");
        GoalseekOffice dropped = new GoalseekOffice();
        dropped.open();
        dropped.drop();
        EXPECT.same("layers() after drop()", dropped.layers(), 0);
        EXPECT.fails(dropped, STATE, "drop() after drop()", () -> dropped.drop());
        EXPECT.fails(dropped, STATE, "keep() after drop()", () -> dropped.keep());
        GoalseekOffice kept = new GoalseekOffice();
        kept.open();
        kept.keep();
        EXPECT.same("layers() after keep()", kept.layers(), 0);
        EXPECT.fails(kept, STATE, "drop() after keep()", () -> kept.drop());
        EXPECT.fails(kept, STATE, "keep() after keep()", () -> kept.keep());
    }

    private static void draftIsApart() {
        EXPECT.sentence("The draft is apart from that; neither layers nor formulas that are given change it");
        GoalseekOffice office = new GoalseekOffice();
        Written.give(office, 1, "c0");
        Written.draft(office, "6 *");
        office.open();
        Written.draft(office, "7");
        office.put(2, 5);
        office.clear(2);
        office.seek(1, 3, 0, 0, 9);
        EXPECT.same("drafted() after put(), clear() and seek()", office.drafted(), 3);
        office.drop();
        EXPECT.same("drafted() after drop()", office.drafted(), 3);
        office.open();
        office.keep();
        EXPECT.same("drafted() after keep()", office.drafted(), 3);
        office.open();
        EXPECT.same("set(3)", office.set(3), 1);
        EXPECT.same("value(3)", office.value(3), 42);
        office.drop();
        EXPECT.same("drafted() after set() and drop()", office.drafted(), 0);
    }

    // ---- Terms: exceptions

    private static void refusedDraftCalls() {
        EXPECT.sentence("A call that throws an exception changes nothing: the draft");
        GoalseekOffice office = new GoalseekOffice();
        Written.draft(office, "1+2+3+4+5+6+7");
        EXPECT.fails(office, ARGUMENT, "number(-1)", () -> office.number(-1));
        EXPECT.fails(office, ARGUMENT, "sign(6)", () -> office.sign(6));
        EXPECT.fails(office, INDEX, "cell(30)", () -> office.cell(30));
        Written.draft(office, "+ 8");
        EXPECT.fails(office, STATE, "number(9) to a full draft", () -> office.number(9));
        EXPECT.fails(office, STATE, "cell(9) to a full draft", () -> office.cell(9));
        EXPECT.fails(office, STATE, "sign(1) to a full draft", () -> office.sign(1));
        EXPECT.fails(office, INDEX, "set(30) of a full draft", () -> office.set(30));
        EXPECT.same("set(0) of the draft that stays", office.set(0), 1);
        EXPECT.same("value(0)", office.value(0), 36);
        Written.draft(office, "c0 +");
        EXPECT.fails(office, ARGUMENT, "set(1) of no formula", () -> office.set(1));
        Written.draft(office, "1");
        EXPECT.fails(office, STATE, "set(0) of itself", () -> office.set(0));
        EXPECT.same("set(1) of the draft that stays", office.set(1), 1);
        EXPECT.same("value(1)", office.value(1), 37);
    }

    private static void refusedCellCalls() {
        EXPECT.sentence("A call that throws an exception changes nothing: cells");
        GoalseekOffice office = new GoalseekOffice();
        office.put(0, 3);
        Written.give(office, 1, "100 / (c0 - 4)");
        EXPECT.fails(office, ARGUMENT, "put(0, 1000000)", () -> office.put(0, 1000000));
        EXPECT.fails(office, INDEX, "put(30, 1)", () -> office.put(30, 1));
        EXPECT.fails(office, INDEX, "clear(-1)", () -> office.clear(-1));
        EXPECT.fails(office, NoSuchElementException.class, "seek(1, 7, 0, 0, 8)",
            () -> office.seek(1, 7, 0, 0, 8));
        EXPECT.fails(office, NoSuchElementException.class, "seek(1, 101, 0, 5, 8)",
            () -> office.seek(1, 101, 0, 5, 8));
        EXPECT.same("value(0)", office.value(0), 3);
        EXPECT.same("value(1)", office.value(1), -100);
        EXPECT.same("foundAnew()", office.foundAnew(), 2);
    }

    private static void refusedLayerCalls() {
        EXPECT.sentence("A call that throws an exception changes nothing: layers");
        GoalseekOffice office = new GoalseekOffice();
        EXPECT.fails(office, STATE, "drop() with none open", () -> office.drop());
        EXPECT.fails(office, STATE, "keep() with none open", () -> office.keep());
        for (int layer = 1; layer <= 4; layer++) {
            office.put(0, layer);
            EXPECT.same("open()", office.open(), layer);
        }
        office.put(0, 5);
        EXPECT.fails(office, STATE, "open(), the 5th", () -> office.open());
        for (int layer = 4; layer >= 1; layer--) {
            EXPECT.same("drop()", office.drop(), 1);
            EXPECT.same("value(0)", office.value(0), layer);
        }
        EXPECT.fails(office, STATE, "drop(), the 5th", () -> office.drop());
        EXPECT.same("value(0) after it", office.value(0), 1);
    }

    private static void firstOfSeveral() {
        EXPECT.sentence("If several apply, the one that the throws clause names first is thrown");
        GoalseekOffice full = new GoalseekOffice();
        Written.draft(full, "---------------");
        EXPECT.fails(full, ARGUMENT, "number(1000000) to a full draft", () -> full.number(1000000));
        EXPECT.fails(full, INDEX, "cell(30) to a full draft", () -> full.cell(30));
        EXPECT.fails(full, ARGUMENT, "sign(6) to a full draft", () -> full.sign(6));
        EXPECT.fails(full, INDEX, "set(30) of no formula", () -> full.set(30));
        GoalseekOffice office = new GoalseekOffice();
        Written.give(office, 1, "c0");
        Written.draft(office, "c1 +");
        EXPECT.fails(office, ARGUMENT, "set(1) of no formula and itself", () -> office.set(1));
        EXPECT.fails(office, ARGUMENT, "set(0) of no formula and itself", () -> office.set(0));
        EXPECT.fails(office, INDEX, "put(30, 1000000)", () -> office.put(30, 1000000));
        EXPECT.fails(office, INDEX, "seek(30, ..) with all wrong", () -> office.seek(30, 2000000000, 0, 9, 1));
        EXPECT.fails(office, INDEX, "seek(.., 30, ..) with all wrong", () -> office.seek(0, 2000000000, 30, 9, 1));
        EXPECT.fails(office, ARGUMENT, "seek() of a wrong target and itself",
            () -> office.seek(0, 1000000001, 0, 0, 9));
        EXPECT.fails(office, ARGUMENT, "seek() of a wrong range with a wrong input", () -> office.seek(0, 5, 1, 9, 1));
        EXPECT.fails(office, STATE, "seek() of itself, where nothing is found", () -> office.seek(0, 50, 0, 0, 9));
        EXPECT.fails(office, STATE, "seek() with no number as the input, where nothing is found",
            () -> office.seek(0, 50, 1, 0, 9));
    }

    private static void none() {
        EXPECT.sentence("NONE = -1");
        EXPECT.same("NONE", GoalseekOffice.NONE, -1);
    }
}
