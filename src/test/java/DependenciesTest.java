/** Promises 18 and 19: levels and dependencies. */
public final class DependenciesTest {
    private static final Expect EXPECT = new Expect();

    public static void main(String[] args) {
        level();
        levelOfTheLongestWay();
        depends();
        wrongCells();
        EXPECT.end();
    }

    private static void level() {
        GoalseekOffice office = new GoalseekOffice();
        office.put(1, 5);
        Written.give(office, 2, "1 + 2");
        EXPECT.same("level(0) of an empty cell", office.level(0), 0);
        EXPECT.same("level(1) of a number", office.level(1), 0);
        EXPECT.same("level(2) of a sum of numbers", office.level(2), 0);
        Written.give(office, 3, "c0");
        EXPECT.same("level(3) over an empty cell", office.level(3), 1);
        Written.give(office, 4, "c3 + c0");
        EXPECT.same("level(4)", office.level(4), 2);
        Written.give(office, 5, "c0 + c4 + c3");
        EXPECT.same("level(5)", office.level(5), 3);
        office.put(4, 1);
        EXPECT.same("level(5) after put(4, 1)", office.level(5), 2);
        office.open();
        office.clear(3);
        EXPECT.same("level(5) after clear(3)", office.level(5), 1);
        office.drop();
        EXPECT.same("level(5) after drop()", office.level(5), 2);
        Written.give(office, 6, "1 / 0 + c5");
        EXPECT.same("level(6) of a faulty cell", office.level(6), 3);
    }

    private static void levelOfTheLongestWay() {
        GoalseekOffice office = new GoalseekOffice();
        Written.give(office, 1, "c0");
        for (int cell = 2; cell < 30; cell++) {
            Written.give(office, cell, "c0 + c" + (cell - 1) + " + c" + (cell - 2));
        }
        for (int cell = 0; cell < 30; cell++) {
            EXPECT.same("level(" + cell + ")", office.level(cell), cell);
        }
    }

    private static void depends() {
        GoalseekOffice office = new GoalseekOffice();
        Written.give(office, 1, "c0 * 0");
        Written.give(office, 2, "c1 + c29");
        Written.give(office, 3, "c2");
        EXPECT.same("depends(1, 0)", office.depends(1, 0), true);
        EXPECT.same("depends(2, 1)", office.depends(2, 1), true);
        EXPECT.same("depends(3, 0)", office.depends(3, 0), true);
        EXPECT.same("depends(3, 29)", office.depends(3, 29), true);
        EXPECT.same("depends(0, 3)", office.depends(0, 3), false);
        EXPECT.same("depends(29, 2)", office.depends(29, 2), false);
        EXPECT.same("depends(1, 29)", office.depends(1, 29), false);
        EXPECT.same("depends(3, 4)", office.depends(3, 4), false);
        for (int cell = 0; cell < 30; cell++) {
            EXPECT.same("depends() on itself", office.depends(cell, cell), false);
        }
        office.put(1, 2);
        EXPECT.same("depends(3, 0) after put(1, 2)", office.depends(3, 0), false);
        EXPECT.same("depends(3, 1) after put(1, 2)", office.depends(3, 1), true);
    }

    private static void wrongCells() {
        GoalseekOffice office = new GoalseekOffice();
        for (int wrong : new int[] {-1, 30, Integer.MIN_VALUE, Integer.MAX_VALUE}) {
            EXPECT.fails(office, IndexOutOfBoundsException.class, "level(" + wrong + ")", () -> office.level(wrong));
            EXPECT.fails(office, IndexOutOfBoundsException.class, "depends(" + wrong + ", 0)",
                    () -> office.depends(wrong, 0) ? 1 : 0);
            EXPECT.fails(office, IndexOutOfBoundsException.class, "depends(0, " + wrong + ")",
                    () -> office.depends(0, wrong) ? 1 : 0);
            EXPECT.fails(office, IndexOutOfBoundsException.class, "depends(" + wrong + ", " + wrong + ")",
                    () -> office.depends(wrong, wrong) ? 1 : 0);
        }
    }
}
