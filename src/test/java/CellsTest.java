/** Promises 7, 8, 9 and 17: formulas are given to cells and taken from them. */
public final class CellsTest {
    private static final Expect EXPECT = new Expect();
    private static final int[] NO_CELLS = {-1, 30, Integer.MIN_VALUE, Integer.MAX_VALUE};

    public static void main(String[] args) {
        set();
        setOfNoFormula();
        setOfItself();
        put();
        clear();
        signs();
        wrongCells();
        EXPECT.end();
    }

    private static void set() {
        GoalseekOffice office = new GoalseekOffice();
        EXPECT.same("set(1)", Written.give(office, 1, "c0 + 1"), 1);
        EXPECT.same("drafted() after set(1)", office.drafted(), 0);
        EXPECT.same("set(2)", Written.give(office, 2, "c1 * c1"), 1);
        EXPECT.same("set(3)", Written.give(office, 3, "c1 + c2"), 1);
        EXPECT.same("set(0)", Written.give(office, 0, "c29 + 3"), 4);
        EXPECT.same("set(0), the same again", Written.give(office, 0, "c29 + 3"), 4);
        EXPECT.same("value(3)", office.value(3), 20);
        EXPECT.same("set(2), in place of another", Written.give(office, 2, "9"), 2);
        EXPECT.same("value(3)", office.value(3), 13);
        EXPECT.same("set(1)", Written.give(office, 1, "2"), 2);
        EXPECT.same("value(3)", office.value(3), 11);
        EXPECT.same("set(0), on which none depends now", Written.give(office, 0, "5"), 1);
    }

    private static void setOfNoFormula() {
        for (String draft : new String[] {"", "1 +", "1 2", ")", "(1", "-"}) {
            GoalseekOffice office = new GoalseekOffice();
            office.put(0, 6);
            Written.draft(office, draft);
            EXPECT.fails(office, IllegalArgumentException.class, "set(0) of " + draft, () -> office.set(0));
        }
        GoalseekOffice office = new GoalseekOffice();
        Written.draft(office, "c0 +");
        EXPECT.fails(office, IllegalArgumentException.class, "set(0) of no formula and itself", () -> office.set(0));
        EXPECT.fails(office, IndexOutOfBoundsException.class, "set(30) of no formula", () -> office.set(30));
    }

    private static void setOfItself() {
        GoalseekOffice office = new GoalseekOffice();
        Written.draft(office, "c0");
        EXPECT.fails(office, IllegalStateException.class, "set(0) of itself", () -> office.set(0));
        EXPECT.same("set(1) of the draft that stays", office.set(1), 1);
        Written.give(office, 2, "c1");
        Written.give(office, 3, "0 * c2");
        Written.draft(office, "5 + c3 * 0");
        EXPECT.fails(office, IllegalStateException.class, "set(0) of the end of a chain", () -> office.set(0));
        EXPECT.fails(office, IllegalStateException.class, "set(1) of the end of a chain", () -> office.set(1));
        EXPECT.fails(office, IllegalStateException.class, "set(3) of itself", () -> office.set(3));
        EXPECT.same("set(4) of the draft that stays", office.set(4), 1);
        Written.give(office, 2, "7");
        EXPECT.same("set(0) after the chain is cut", Written.give(office, 0, "c3"), 2);
        // A cell that named another may be named by it once its own formula is replaced.
        Written.give(office, 10, "c11");
        Written.give(office, 10, "3");
        EXPECT.same("set(11)", Written.give(office, 11, "c10"), 1);
        EXPECT.same("value(11)", office.value(11), 3);
    }

    private static void put() {
        GoalseekOffice office = new GoalseekOffice();
        EXPECT.same("put(0, 0)", office.put(0, 0), 1);
        EXPECT.same("put(0, 999999)", office.put(0, 999999), 1);
        EXPECT.same("value(0)", office.value(0), 999999);
        Written.give(office, 1, "c0 - c0");
        Written.give(office, 2, "c1");
        EXPECT.same("put(0, 4)", office.put(0, 4), 3);
        EXPECT.same("put(0, 4) again", office.put(0, 4), 3);
        EXPECT.same("put(1, 8), in place of a formula", office.put(1, 8), 2);
        EXPECT.same("value(2)", office.value(2), 8);
        EXPECT.same("put(0, 5), on which none depends now", office.put(0, 5), 1);
        for (int wrong : new int[] {-1, 1000000, Integer.MIN_VALUE, Integer.MAX_VALUE}) {
            EXPECT.fails(office, IllegalArgumentException.class, "put(0, " + wrong + ")", () -> office.put(0, wrong));
            EXPECT.fails(office, IndexOutOfBoundsException.class, "put(30, " + wrong + ")",
                    () -> office.put(30, wrong));
        }
    }

    private static void clear() {
        GoalseekOffice office = new GoalseekOffice();
        Written.give(office, 1, "c0 + 2");
        EXPECT.same("clear(0) of an empty cell on which one depends", office.clear(0), 0);
        office.put(0, 0);
        EXPECT.same("clear(0) of the number 0", office.clear(0), 2);
        EXPECT.same("clear(0) again", office.clear(0), 0);
        office.put(0, 3);
        EXPECT.same("value(1)", office.value(1), 5);
        EXPECT.same("clear(0)", office.clear(0), 2);
        EXPECT.same("value(1) of an empty cell and 2", office.value(1), 2);
        Written.draft(office, "8");
        EXPECT.same("clear(1)", office.clear(1), 1);
        EXPECT.same("value(1) of an empty cell", office.value(1), 0);
        EXPECT.same("depends(1, 0) of an empty cell", office.depends(1, 0), false);
        EXPECT.same("drafted() after clear()", office.drafted(), 1);
    }

    private static void signs() {
        GoalseekOffice office = new GoalseekOffice();
        EXPECT.same("signs(3) of an empty cell", office.signs(3), 0);
        office.put(3, 123456);
        EXPECT.same("signs(3) of a number", office.signs(3), 1);
        Written.give(office, 3, "-(c29 + 999999)");
        EXPECT.same("signs(3)", office.signs(3), 6);
        Written.give(office, 3, "1+2+3+4+5+6+7+8");
        EXPECT.same("signs(3) of the longest formula", office.signs(3), 15);
        EXPECT.same("value(3)", office.value(3), 36);
        office.clear(3);
        EXPECT.same("signs(3) of a cell that was emptied", office.signs(3), 0);
        EXPECT.same("signs(29)", office.signs(29), 0);
    }

    private static void wrongCells() {
        GoalseekOffice office = new GoalseekOffice();
        Written.draft(office, "1");
        for (int wrong : NO_CELLS) {
            EXPECT.fails(office, IndexOutOfBoundsException.class, "set(" + wrong + ")", () -> office.set(wrong));
            EXPECT.fails(office, IndexOutOfBoundsException.class, "put(" + wrong + ", 1)", () -> office.put(wrong, 1));
            EXPECT.fails(office, IndexOutOfBoundsException.class, "clear(" + wrong + ")", () -> office.clear(wrong));
            EXPECT.fails(office, IndexOutOfBoundsException.class, "signs(" + wrong + ")", () -> office.signs(wrong));
        }
    }
}
