import java.util.NoSuchElementException;

/** Each sentence of promises 1 to 21 that names a boundary case; SeekEdgesTest holds those of promise 22. */
public final class PromisesEdgesTest {
    private static final Expect EXPECT = new Expect();
    private static final Class<IndexOutOfBoundsException> INDEX = IndexOutOfBoundsException.class;
    private static final Class<IllegalArgumentException> ARGUMENT = IllegalArgumentException.class;
    private static final Class<IllegalStateException> STATE = IllegalStateException.class;
    private static final Class<ArithmeticException> ARITHMETIC = ArithmeticException.class;
    // What set() returned in all while chain() was built: 1, 2 and so on up to 29.
    private static final int CHAIN = 435;
    private static final int[] NO_CELLS = {-1, 30, 32, Integer.MIN_VALUE, Integer.MAX_VALUE};
    private static final int[] NO_NUMBERS = {-1, 1000000, Integer.MIN_VALUE, Integer.MAX_VALUE};

    public static void main(String[] args) {
        EXPECT.test(PromisesEdgesTest::newObject);
        EXPECT.test(PromisesEdgesTest::number);
        EXPECT.test(PromisesEdgesTest::numberOutOfRange);
        EXPECT.test(PromisesEdgesTest::numberToAFullDraft);
        EXPECT.test(PromisesEdgesTest::cell);
        EXPECT.test(PromisesEdgesTest::cellToAFullDraft);
        EXPECT.test(PromisesEdgesTest::sign);
        EXPECT.test(PromisesEdgesTest::signToAFullDraft);
        EXPECT.test(PromisesEdgesTest::wipe);
        EXPECT.test(PromisesEdgesTest::faultNone);
        EXPECT.test(PromisesEdgesTest::faultPlace);
        EXPECT.test(PromisesEdgesTest::faultWhateverComesBehind);
        EXPECT.test(PromisesEdgesTest::faultByFormAlone);
        EXPECT.test(PromisesEdgesTest::faultTooEarly);
        EXPECT.test(PromisesEdgesTest::setGivesAndEmpties);
        EXPECT.test(PromisesEdgesTest::setCounts);
        EXPECT.test(PromisesEdgesTest::setOfNoSuchCell);
        EXPECT.test(PromisesEdgesTest::setOfNoFormula);
        EXPECT.test(PromisesEdgesTest::setOnItself);
        EXPECT.test(PromisesEdgesTest::put);
        EXPECT.test(PromisesEdgesTest::putCounts);
        EXPECT.test(PromisesEdgesTest::putRefused);
        EXPECT.test(PromisesEdgesTest::clear);
        EXPECT.test(PromisesEdgesTest::clearOfAnEmptyCell);
        EXPECT.test(PromisesEdgesTest::clearRefused);
        EXPECT.test(PromisesEdgesTest::open);
        EXPECT.test(PromisesEdgesTest::drop);
        EXPECT.test(PromisesEdgesTest::dropOfTheSameSigns);
        EXPECT.test(PromisesEdgesTest::dropRefused);
        EXPECT.test(PromisesEdgesTest::keep);
        EXPECT.test(PromisesEdgesTest::layers);
        EXPECT.test(PromisesEdgesTest::drafted);
        EXPECT.test(PromisesEdgesTest::values);
        EXPECT.test(PromisesEdgesTest::valuesRefused);
        EXPECT.test(PromisesEdgesTest::signs);
        EXPECT.test(PromisesEdgesTest::level);
        EXPECT.test(PromisesEdgesTest::depends);
        EXPECT.test(PromisesEdgesTest::faulty);
        EXPECT.test(PromisesEdgesTest::foundAnewBySetPutAndClear);
        EXPECT.test(PromisesEdgesTest::foundAnewByDrop);
        EXPECT.test(PromisesEdgesTest::foundAnewBySeek);
        EXPECT.end();
    }

    /** An office in which each of 29 cells refers to the next one, and so all depend on cell 29. */
    private static GoalseekOffice chain() {
        GoalseekOffice office = new GoalseekOffice();
        for (int cell = 0; cell < 29; cell++) {
            Written.give(office, cell, "c" + (cell + 1));
        }
        return office;
    }

    private static GoalseekOffice fullDraft() {
        GoalseekOffice office = new GoalseekOffice();
        Written.draft(office, "1+2+3+4+5+6+7+8");
        return office;
    }

    // ---- Promises 1 to 6: a new object, the draft

    private static void newObject() {
        EXPECT.sentence("1: All cells are empty, no layer is open, the draft has no signs");
        GoalseekOffice first = new GoalseekOffice();
        first.put(0, 7);
        first.open();
        first.number(7);
        GoalseekOffice office = new GoalseekOffice();
        for (int cell = 0; cell < 30; cell++) {
            EXPECT.same("signs(" + cell + ")", office.signs(cell), 0);
        }
        EXPECT.same("layers()", office.layers(), 0);
        EXPECT.same("drafted()", office.drafted(), 0);
        EXPECT.same("wipe()", office.wipe(), 0);
        EXPECT.fails(office, STATE, "drop()", () -> office.drop());
    }

    private static void number() {
        EXPECT.sentence("2: number: 0 to 999999; returns how many signs the draft has then");
        for (int number : new int[] {0, 1, 999998, 999999}) {
            GoalseekOffice office = new GoalseekOffice();
            EXPECT.same("number(" + number + ")", office.number(number), 1);
            office.set(0);
            EXPECT.same("value(0)", office.value(0), number);
        }
        GoalseekOffice office = new GoalseekOffice();
        for (int count = 1; count <= 15; count++) {
            EXPECT.same("number(), the " + count + "th", office.number(count), count);
        }
    }

    private static void numberOutOfRange() {
        EXPECT.sentence("2: Throws IllegalArgumentException if number is out of range");
        GoalseekOffice office = new GoalseekOffice();
        for (int no : NO_NUMBERS) {
            EXPECT.fails(office, ARGUMENT, "number(" + no + ")", () -> office.number(no));
        }
    }

    private static void numberToAFullDraft() {
        EXPECT.sentence("2: Throws IllegalStateException if the draft has 15 signs");
        GoalseekOffice office = fullDraft();
        EXPECT.fails(office, STATE, "number(9)", () -> office.number(9));
        office.wipe();
        EXPECT.same("number(9) after wipe()", office.number(9), 1);
    }

    private static void cell() {
        EXPECT.sentence("3: cell: 0 to 29; returns how many signs the draft has then");
        GoalseekOffice office = new GoalseekOffice();
        office.put(0, 3);
        office.put(29, 4);
        EXPECT.same("cell(0)", office.cell(0), 1);
        EXPECT.same("sign(2)", office.sign(2), 2);
        EXPECT.same("cell(29)", office.cell(29), 3);
        for (int no : NO_CELLS) {
            EXPECT.fails(office, INDEX, "cell(" + no + ")", () -> office.cell(no));
        }
        office.set(1);
        EXPECT.same("value(1)", office.value(1), 12);
        for (int count = 1; count <= 15; count++) {
            EXPECT.same("cell(), the " + count + "th", office.cell(count), count);
        }
    }

    private static void cellToAFullDraft() {
        EXPECT.sentence("3: Throws IllegalStateException if the draft has 15 signs");
        GoalseekOffice office = fullDraft();
        EXPECT.fails(office, STATE, "cell(9)", () -> office.cell(9));
        EXPECT.same("set(0)", office.set(0), 1);
        EXPECT.same("cell(9) after set()", office.cell(9), 1);
    }

    private static void sign() {
        EXPECT.sentence("4: code: 0 to 5; returns how many signs the draft has then");
        GoalseekOffice office = new GoalseekOffice();
        for (int count = 1; count <= 15; count++) {
            EXPECT.same("sign(" + (count % 6) + ")", office.sign(count % 6), count);
        }
        GoalseekOffice refused = new GoalseekOffice();
        for (int no : new int[] {-1, 6, 7, 36, Integer.MIN_VALUE, Integer.MAX_VALUE}) {
            EXPECT.fails(refused, ARGUMENT, "sign(" + no + ")", () -> refused.sign(no));
        }
    }

    private static void signToAFullDraft() {
        EXPECT.sentence("4: Throws IllegalStateException if the draft has 15 signs");
        GoalseekOffice office = fullDraft();
        for (int code = 0; code <= 5; code++) {
            int refused = code;
            EXPECT.fails(office, STATE, "sign(" + code + ")", () -> office.sign(refused));
        }
        office.wipe();
        EXPECT.same("sign(1) after wipe()", office.sign(1), 1);
    }

    private static void wipe() {
        EXPECT.sentence("5: Empties the draft; returns how many signs it had");
        GoalseekOffice office = fullDraft();
        EXPECT.same("wipe() of a full draft", office.wipe(), 15);
        EXPECT.same("drafted()", office.drafted(), 0);
        EXPECT.same("fault()", office.fault(), 0);
        EXPECT.same("wipe() of an empty draft", office.wipe(), 0);
        Written.draft(office, "9");
        EXPECT.same("set(0) of what was written behind it", office.set(0), 1);
        EXPECT.same("value(0)", office.value(0), 9);
        Written.draft(office, "8");
        EXPECT.same("wipe() of 1 sign", office.wipe(), 1);
    }

    private static void fault(String draft, int due) {
        GoalseekOffice office = new GoalseekOffice();
        Written.draft(office, draft);
        EXPECT.same("fault() of " + draft, office.fault(), due);
    }

    private static void faultNone() {
        EXPECT.sentence("6: Returns NONE if it is one");
        fault("0", GoalseekOffice.NONE);
        fault("c29", GoalseekOffice.NONE);
        fault("1 / 0", GoalseekOffice.NONE);
        fault("1+2+3+4+5+6+7+8", GoalseekOffice.NONE);
        fault("(((((((1)))))))", GoalseekOffice.NONE);
        fault("--------------1", GoalseekOffice.NONE);
    }

    private static void faultPlace() {
        EXPECT.sentence("6: The place of the first sign, from 0 on, that cannot stand where it does");
        fault("+ 1", 0);
        fault("* 1", 0);
        fault("/ 1", 0);
        fault(")", 0);
        fault("1 1", 1);
        fault("1 c1", 1);
        fault("c1 1", 1);
        fault("1 (", 1);
        fault("1 )", 1);
        fault("- + 1", 1);
        fault("( )", 1);
        fault("( * 1 )", 1);
        fault("1 + )", 2);
        fault("( 1 ) )", 3);
        fault("( 1 ) (", 3);
        fault("( 1 ) 1", 3);
        fault("1+2+3+4+5+6+7+ +", 14);
    }

    private static void faultWhateverComesBehind() {
        EXPECT.sentence("6: .. that cannot stand where it does, whatever comes behind it");
        // What comes behind could not mend it, and what stands could be gone on with.
        fault("1 + + 2 * ( 3", 2);
        fault("1 ) + ( 2", 1);
        fault("( 1 + 2 3 )", 4);
        fault("( ( 1 ) ) ) + 1", 5);
        fault("( 1 + 2 * - (", 7);
        fault("1 2 3 4 + + ) (", 1);
    }

    private static void faultByFormAlone() {
        EXPECT.sentence("6: .. by the formulas' form alone (that there are at most 15 signs plays no part)");
        fault("(((((((((((((((", 15);
        fault("((((((((", 8);
        fault("((((((((1", 9);
        fault("((((((((1))))))", 15);
        fault("---------------", 15);
        fault("1+2+3+4+5+6+7 +", 14);
        fault("1+2+3+4+5+6+7 + -", 15);
        fault("1+2+3+4+5+6+7 + (", 15);
    }

    private static void faultTooEarly() {
        EXPECT.sentence("6: .. how many signs it has if it ends too early");
        fault("", 0);
        fault("-", 1);
        fault("(", 1);
        fault("1 +", 2);
        fault("1 *", 2);
        fault("( 1", 2);
        fault("( ( 1 )", 4);
        fault("( 1 ) /", 4);
    }

    // ---- Promises 7 to 9: cells

    private static void setGivesAndEmpties() {
        EXPECT.sentence("7: Gives the draft to a cell as its formula, and empties the draft");
        GoalseekOffice office = fullDraft();
        office.set(0);
        EXPECT.same("drafted()", office.drafted(), 0);
        EXPECT.same("fault()", office.fault(), 0);
        EXPECT.same("signs(0)", office.signs(0), 15);
        Written.give(office, 0, "5");
        EXPECT.same("signs(0) after another set()", office.signs(0), 1);
        EXPECT.same("value(0) after another set()", office.value(0), 5);
        Written.draft(office, "9 9 9");
        EXPECT.same("value(0) after signs for the draft", office.value(0), 5);
        EXPECT.same("valueAnew(0) after signs for the draft", office.valueAnew(0), 5);
    }

    private static void setCounts() {
        EXPECT.sentence("7: Returns for how many cells a value is found anew: this one, and all that depend on it");
        GoalseekOffice office = chain();
        EXPECT.same("set(29), on which all depend", Written.give(office, 29, "1 / 0"), 30);
        EXPECT.same("set(29), the same again", Written.give(office, 29, "1 / 0"), 30);
        EXPECT.same("set(0), on which none depends", Written.give(office, 0, "c1 + c2"), 1);
        EXPECT.same("set(2), on which two depend", Written.give(office, 2, "c28"), 3);
        EXPECT.same("set(10), on which some depend", Written.give(office, 10, "c20"), 8);
    }

    private static void setOfNoSuchCell() {
        EXPECT.sentence("7: Throws IndexOutOfBoundsException if there is no such cell");
        GoalseekOffice office = fullDraft();
        for (int no : NO_CELLS) {
            EXPECT.fails(office, INDEX, "set(" + no + ")", () -> office.set(no));
        }
        EXPECT.same("set(0)", office.set(0), 1);
        EXPECT.same("value(0)", office.value(0), 36);
    }

    private static void setOfNoFormula() {
        EXPECT.sentence("7: Throws IllegalArgumentException if the draft is no formula");
        for (String draft : new String[] {"", "1 +", "(1", "-", "1 1", ")", "1 )", "((((((((1))))))"}) {
            GoalseekOffice office = new GoalseekOffice();
            office.put(0, 6);
            Written.draft(office, draft);
            EXPECT.fails(office, ARGUMENT, "set(0) of " + draft, () -> office.set(0));
        }
    }

    private static void setOnItself() {
        EXPECT.sentence("7: Throws IllegalStateException if a cell would depend on itself");
        GoalseekOffice office = chain();
        Written.draft(office, "0 * c0");
        for (int cell : new int[] {0, 1, 15, 29}) {
            EXPECT.fails(office, STATE, "set(" + cell + ")", () -> office.set(cell));
        }
        EXPECT.same("clear(28)", office.clear(28), 29);
        EXPECT.same("set(29) when the chain is cut", office.set(29), 1);
        Written.draft(office, "1 + c29");
        EXPECT.fails(office, STATE, "set(28) the other way round", () -> office.set(28));
        EXPECT.same("set(28) that refers to the same cell as before the chain was cut", again(office), 29);
    }

    /** The chain as it was, without the draft that stands. */
    private static int again(GoalseekOffice office) {
        office.wipe();
        office.clear(29);
        return Written.give(office, 28, "c29");
    }

    private static void put() {
        EXPECT.sentence("8: number: 0 to 999999; gives a number to a cell as its formula");
        GoalseekOffice office = new GoalseekOffice();
        for (int number : new int[] {0, 1, 999998, 999999}) {
            EXPECT.same("put(29, " + number + ")", office.put(29, number), 1);
            EXPECT.same("value(29)", office.value(29), number);
            EXPECT.same("signs(29)", office.signs(29), 1);
        }
        Written.give(office, 0, "c29 / 0");
        office.put(0, 8);
        EXPECT.same("value(0) in place of a faulty formula", office.value(0), 8);
        EXPECT.same("depends(0, 29) in place of a formula", office.depends(0, 29), false);
    }

    private static void putCounts() {
        EXPECT.sentence("8: Returns for how many cells a value is found anew: this one, and all that depend on it");
        GoalseekOffice office = chain();
        EXPECT.same("put(29, 1), on which all depend", office.put(29, 1), 30);
        EXPECT.same("put(29, 1) again", office.put(29, 1), 30);
        EXPECT.same("put(0, 1), on which none depends", office.put(0, 1), 1);
        EXPECT.same("put(10, 1) in place of a formula", office.put(10, 1), 10);
        EXPECT.same("put(29, 1) when the chain is cut", office.put(29, 1), 19);
    }

    private static void putRefused() {
        EXPECT.sentence("8: Throws IndexOutOfBoundsException and IllegalArgumentException");
        GoalseekOffice office = new GoalseekOffice();
        office.put(0, 5);
        for (int no : NO_CELLS) {
            EXPECT.fails(office, INDEX, "put(" + no + ", 1)", () -> office.put(no, 1));
        }
        for (int no : NO_NUMBERS) {
            EXPECT.fails(office, ARGUMENT, "put(0, " + no + ")", () -> office.put(0, no));
            EXPECT.fails(office, INDEX, "put(30, " + no + ")", () -> office.put(30, no));
        }
    }

    private static void clear() {
        EXPECT.sentence("9: Empties a cell; returns for how many cells a value is found anew");
        GoalseekOffice office = chain();
        office.put(29, 0);
        EXPECT.same("clear(29) of the number 0, on which all depend", office.clear(29), 30);
        EXPECT.same("signs(29)", office.signs(29), 0);
        EXPECT.same("clear(0), on which none depends", office.clear(0), 1);
        EXPECT.same("clear(10)", office.clear(10), 10);
        EXPECT.same("level(9)", office.level(9), 1);
    }

    private static void clearOfAnEmptyCell() {
        EXPECT.sentence("9: .. 0 if it was empty");
        GoalseekOffice office = chain();
        int before = office.foundAnew();
        EXPECT.same("clear(29), on which all depend", office.clear(29), 0);
        office.put(29, 5);
        EXPECT.same("clear(29)", office.clear(29), 30);
        EXPECT.same("clear(29) again", office.clear(29), 0);
        EXPECT.same("foundAnew()", office.foundAnew(), before + 60);
    }

    private static void clearRefused() {
        EXPECT.sentence("9: Throws IndexOutOfBoundsException if there is no such cell");
        GoalseekOffice office = chain();
        for (int no : NO_CELLS) {
            EXPECT.fails(office, INDEX, "clear(" + no + ")", () -> office.clear(no));
        }
    }

    // ---- Promises 10 to 13: layers

    private static void open() {
        EXPECT.sentence("10: Returns how many are open then; throws IllegalStateException if 4 are open");
        GoalseekOffice office = new GoalseekOffice();
        for (int count = 1; count <= 4; count++) {
            EXPECT.same("open()", office.open(), count);
        }
        EXPECT.fails(office, STATE, "open(), the 5th", () -> office.open());
        EXPECT.same("keep()", office.keep(), 3);
        EXPECT.same("open() after keep()", office.open(), 4);
        EXPECT.fails(office, STATE, "open(), the 5th again", () -> office.open());
    }

    private static void drop() {
        EXPECT.sentence("11: Returns how many cells have another formula by that");
        GoalseekOffice office = chain();
        office.open();
        EXPECT.same("drop() of nothing", office.drop(), 0);
        office.open();
        EXPECT.same("put(29, 0), the value as it was", office.put(29, 0), 30);
        EXPECT.same("drop() of one on which all depend", office.drop(), 1);
        office.open();
        office.clear(0);
        EXPECT.same("drop() of one that was emptied", office.drop(), 1);
        office.open();
        for (int cell = 0; cell < 30; cell++) {
            office.put(cell, cell);
        }
        EXPECT.same("drop() of all", office.drop(), 30);
        EXPECT.same("depends(0, 29) after it", office.depends(0, 29), true);
    }

    private static void sameSigns(String before, String then, int due) {
        GoalseekOffice office = new GoalseekOffice();
        Written.give(office, 9, before);
        office.open();
        Written.give(office, 9, then);
        EXPECT.same("drop() of " + then + " in place of " + before, office.drop(), due);
        EXPECT.same("foundAnew() after it", office.foundAnew(), 2 + due);
    }

    private static void dropOfTheSameSigns() {
        EXPECT.sentence("11: .. formulas with the same signs are the same");
        sameSigns("1 + c2", "1 + c2", 0);
        sameSigns("7", "7", 0);
        sameSigns("7", "8", 1);
        sameSigns("0", "c0", 1);
        sameSigns("7", "c7", 1);
        sameSigns("1 + c2", "c2 + 1", 1);
        sameSigns("1 + c2", "1 - c2", 1);
        sameSigns("1 + c2", "1 + c3", 1);
        sameSigns("1 + c2", "1 + c2 + 0", 1);
        sameSigns("1", "(1)", 1);
        sameSigns("(c2)", "c2", 1);
        GoalseekOffice office = new GoalseekOffice();
        office.open();
        office.put(3, 0);
        EXPECT.same("drop() of 0 in place of an empty cell", office.drop(), 1);
        office.open();
        office.put(3, 0);
        office.clear(3);
        EXPECT.same("drop() of a cell that is empty again", office.drop(), 0);
        office.put(3, 5);
        office.open();
        office.put(3, 6);
        Written.give(office, 3, "5");
        EXPECT.same("drop() of a number that set() gave again", office.drop(), 0);
    }

    private static void dropRefused() {
        EXPECT.sentence("11: Throws IllegalStateException if none is open");
        GoalseekOffice office = new GoalseekOffice();
        office.put(0, 5);
        EXPECT.fails(office, STATE, "drop()", () -> office.drop());
        office.open();
        office.put(0, 6);
        EXPECT.same("drop()", office.drop(), 1);
        EXPECT.fails(office, STATE, "drop() again", () -> office.drop());
        EXPECT.same("value(0)", office.value(0), 5);
    }

    private static void keep() {
        EXPECT.sentence("12: Returns how many layers are open then; throws IllegalStateException if none is open");
        GoalseekOffice office = new GoalseekOffice();
        EXPECT.fails(office, STATE, "keep()", () -> office.keep());
        for (int layer = 1; layer <= 4; layer++) {
            office.open();
            office.put(0, layer);
        }
        for (int left = 3; left >= 0; left--) {
            EXPECT.same("keep()", office.keep(), left);
            EXPECT.same("value(0)", office.value(0), 4);
        }
        EXPECT.fails(office, STATE, "keep() again", () -> office.keep());
    }

    private static void layers() {
        EXPECT.sentence("13: Returns how many layers are open");
        GoalseekOffice office = new GoalseekOffice();
        EXPECT.same("layers()", office.layers(), 0);
        for (int count = 1; count <= 4; count++) {
            office.open();
            EXPECT.same("layers() after open()", office.layers(), count);
        }
        office.drop();
        EXPECT.same("layers() after drop()", office.layers(), 3);
        office.keep();
        EXPECT.same("layers() after keep()", office.layers(), 2);
    }

    // ---- Promises 14 to 20: values and dependencies

    private static void drafted() {
        EXPECT.sentence("14: Returns how many signs the draft has");
        GoalseekOffice office = new GoalseekOffice();
        EXPECT.same("drafted()", office.drafted(), 0);
        for (int count = 1; count <= 15; count++) {
            office.number(999999);
            EXPECT.same("drafted()", office.drafted(), count);
        }
        EXPECT.fails(office, STATE, "number(1)", () -> office.number(1));
        EXPECT.same("drafted() after it", office.drafted(), 15);
        office.wipe();
        EXPECT.same("drafted() after wipe()", office.drafted(), 0);
    }

    private static void values() {
        EXPECT.sentence("15 and 16: Returns the value of a cell; the same, worked out from the formulas of all cells");
        GoalseekOffice office = chain();
        EXPECT.same("value(0) over an empty cell", office.value(0), 0);
        EXPECT.same("valueAnew(0) over an empty cell", office.valueAnew(0), 0);
        Written.give(office, 29, "999999 * 999999");
        for (int cell = 0; cell < 30; cell++) {
            EXPECT.same("value(" + cell + ")", office.value(cell), 999998000001L);
            EXPECT.same("valueAnew(" + cell + ")", office.valueAnew(cell), 999998000001L);
        }
        office.open();
        office.put(15, 4);
        EXPECT.same("value(0) in a layer", office.value(0), 4);
        EXPECT.same("valueAnew(0) in a layer", office.valueAnew(0), 4);
        EXPECT.same("valueAnew(16) in a layer", office.valueAnew(16), 999998000001L);
        office.drop();
        EXPECT.same("value(0) after drop()", office.value(0), 999998000001L);
        EXPECT.same("valueAnew(0) after drop()", office.valueAnew(0), 999998000001L);
        office.clear(29);
        EXPECT.same("value(0) after clear(29)", office.value(0), 0);
        EXPECT.same("valueAnew(0) after clear(29)", office.valueAnew(0), 0);
    }

    private static void valuesRefused() {
        EXPECT.sentence("15 and 16: Throws IndexOutOfBoundsException and ArithmeticException");
        GoalseekOffice office = chain();
        Written.give(office, 29, "1 / 0");
        for (int cell = 0; cell < 30; cell += 29) {
            int faulty = cell;
            EXPECT.fails(office, ARITHMETIC, "value(" + cell + ")", () -> office.value(faulty));
            EXPECT.fails(office, ARITHMETIC, "valueAnew(" + cell + ")", () -> office.valueAnew(faulty));
        }
        for (int no : NO_CELLS) {
            EXPECT.fails(office, INDEX, "value(" + no + ")", () -> office.value(no));
            EXPECT.fails(office, INDEX, "valueAnew(" + no + ")", () -> office.valueAnew(no));
        }
    }

    private static void signs() {
        EXPECT.sentence("17: Tells how many signs the formula of a cell has; 0 if it is empty");
        GoalseekOffice office = fullDraft();
        EXPECT.same("signs(0) of an empty cell", office.signs(0), 0);
        office.set(0);
        EXPECT.same("signs(0) of the longest formula", office.signs(0), 15);
        office.put(0, 999999);
        EXPECT.same("signs(0) of a number", office.signs(0), 1);
        Written.give(office, 0, "-c29");
        EXPECT.same("signs(0) of a minus and a cell", office.signs(0), 2);
        office.clear(0);
        EXPECT.same("signs(0) after clear(0)", office.signs(0), 0);
        for (int no : NO_CELLS) {
            EXPECT.fails(office, INDEX, "signs(" + no + ")", () -> office.signs(no));
        }
    }

    private static void level() {
        EXPECT.sentence("18: Returns the level of a cell");
        GoalseekOffice office = chain();
        EXPECT.same("level(29) of an empty cell", office.level(29), 0);
        EXPECT.same("level(0) of the longest chain", office.level(0), 29);
        Written.give(office, 29, "1 / 0");
        EXPECT.same("level(29) of a faulty cell", office.level(29), 0);
        EXPECT.same("level(0) of a faulty chain", office.level(0), 29);
        office.put(15, 1);
        EXPECT.same("level(0) when the chain is cut", office.level(0), 15);
        for (int no : NO_CELLS) {
            EXPECT.fails(office, INDEX, "level(" + no + ")", () -> office.level(no));
        }
    }

    private static void depends() {
        EXPECT.sentence("19: Returns whether it does; false if both are the same");
        GoalseekOffice office = chain();
        for (int cell = 0; cell < 30; cell++) {
            EXPECT.same("depends(" + cell + ") on itself", office.depends(cell, cell), false);
        }
        EXPECT.same("depends(0, 29)", office.depends(0, 29), true);
        EXPECT.same("depends(28, 29)", office.depends(28, 29), true);
        EXPECT.same("depends(29, 0)", office.depends(29, 0), false);
        EXPECT.same("depends(29, 28)", office.depends(29, 28), false);
        for (int no : NO_CELLS) {
            EXPECT.fails(office, INDEX, "depends(0, " + no + ")", () -> office.depends(0, no) ? 1 : 0);
            EXPECT.fails(office, INDEX, "depends(" + no + ", 29)", () -> office.depends(no, 29) ? 1 : 0);
            EXPECT.fails(office, INDEX, "depends() of " + no + " twice", () -> office.depends(no, no) ? 1 : 0);
        }
    }

    private static void faulty() {
        EXPECT.sentence("20: Returns how many cells are faulty");
        GoalseekOffice office = chain();
        EXPECT.same("faulty() of none", office.faulty(), 0);
        Written.give(office, 29, "1 / 0");
        EXPECT.same("faulty() of all", office.faulty(), 30);
        office.put(10, 1);
        EXPECT.same("faulty() when the chain is cut", office.faulty(), 19);
        office.open();
        office.put(29, 1);
        EXPECT.same("faulty() of a what-if", office.faulty(), 0);
        office.drop();
        EXPECT.same("faulty() after drop()", office.faulty(), 19);
    }

    // ---- Promise 21: foundAnew

    private static void foundAnewBySetPutAndClear() {
        EXPECT.sentence("21: what set(), put() and clear() returned");
        GoalseekOffice office = new GoalseekOffice();
        EXPECT.same("foundAnew() of a new object", office.foundAnew(), 0);
        int due = 0;
        due += Written.give(office, 1, "c0");
        due += Written.give(office, 2, "c1 + c0");
        due += office.put(0, 4);
        due += office.put(0, 4);
        due += office.clear(0);
        due += office.clear(0);
        EXPECT.same("what they returned", due, 11);
        EXPECT.same("foundAnew()", office.foundAnew(), due);
        Written.draft(office, "c2");
        EXPECT.fails(office, STATE, "set(0)", () -> office.set(0));
        EXPECT.fails(office, ARGUMENT, "put(0, -1)", () -> office.put(0, -1));
        office.open();
        office.put(2, 1);
        office.keep();
        EXPECT.same("foundAnew() after keep()", office.foundAnew(), due + 1);
    }

    private static void foundAnewByDrop() {
        EXPECT.sentence("21: for drop() cells with another formula, and cells that depend on them, each once");
        GoalseekOffice office = new GoalseekOffice();
        Written.give(office, 1, "c0");
        Written.give(office, 2, "c1 + c0");
        Written.give(office, 3, "c2 + c1");
        office.open();
        EXPECT.same("put(0, 4)", office.put(0, 4), 4);
        EXPECT.same("put(1, 4)", office.put(1, 4), 3);
        EXPECT.same("foundAnew() ahead of drop()", office.foundAnew(), 10);
        EXPECT.same("drop()", office.drop(), 2);
        EXPECT.same("foundAnew() after drop()", office.foundAnew(), 14);
        office.open();
        EXPECT.same("drop() of nothing", office.drop(), 0);
        EXPECT.same("foundAnew() after drop() of nothing", office.foundAnew(), 14);
        office.open();
        EXPECT.same("put(0, 0), the value as it was", office.put(0, 0), 4);
        EXPECT.same("drop() of it", office.drop(), 1);
        EXPECT.same("foundAnew() after drop() of it", office.foundAnew(), 22);
        office.open();
        EXPECT.same("clear(3)", office.clear(3), 1);
        EXPECT.same("put(5, 1), on which none depends", office.put(5, 1), 1);
        EXPECT.same("drop() of both", office.drop(), 2);
        EXPECT.same("foundAnew() after drop() of both", office.foundAnew(), 26);
    }

    private static void foundAnewBySeek() {
        EXPECT.sentence("21: for seek() what put() would have returned");
        GoalseekOffice office = chain();
        EXPECT.same("seek(1, ..)", office.seek(1, 500, 29, 0, 999999), 500);
        EXPECT.same("foundAnew() after it", office.foundAnew(), CHAIN + 30);
        EXPECT.same("seek(28, ..) of the same", office.seek(28, 500, 29, 0, 999999), 500);
        EXPECT.same("foundAnew() after it", office.foundAnew(), CHAIN + 60);
        EXPECT.fails(office, NoSuchElementException.class, "seek() of nothing",
            () -> office.seek(1, 500, 29, 0, 499));
        EXPECT.same("foundAnew() after it", office.foundAnew(), CHAIN + 60);
    }
}
