/** Promises 1 to 6 and 14: a new object, and the draft. */
public final class DraftTest {
    private static final Expect EXPECT = new Expect();

    public static void main(String[] args) {
        newObject();
        number();
        cell();
        sign();
        fullDraft();
        wipeAndDrafted();
        faultOfFormulas();
        faultPlaces();
        faultOfLongDrafts();
        EXPECT.end();
    }

    private static void newObject() {
        GoalseekOffice office = new GoalseekOffice();
        EXPECT.same("drafted() of a new object", office.drafted(), 0);
        EXPECT.same("layers() of a new object", office.layers(), 0);
        EXPECT.same("faulty() of a new object", office.faulty(), 0);
        EXPECT.same("foundAnew() of a new object", office.foundAnew(), 0);
        for (int cell = 0; cell < 30; cell++) {
            EXPECT.same("signs(" + cell + ") of a new object", office.signs(cell), 0);
            EXPECT.same("value(" + cell + ") of a new object", office.value(cell), 0);
            EXPECT.same("valueAnew(" + cell + ") of a new object", office.valueAnew(cell), 0);
            EXPECT.same("level(" + cell + ") of a new object", office.level(cell), 0);
        }
        GoalseekOffice other = new GoalseekOffice();
        office.put(0, 7);
        office.number(1);
        office.open();
        EXPECT.same("value(0) of another object", other.value(0), 0);
        EXPECT.same("drafted() of another object", other.drafted(), 0);
        EXPECT.same("layers() of another object", other.layers(), 0);
    }

    private static void number() {
        GoalseekOffice office = new GoalseekOffice();
        EXPECT.same("number(0)", office.number(0), 1);
        EXPECT.same("set(0)", office.set(0), 1);
        EXPECT.same("value(0)", office.value(0), 0);
        EXPECT.same("signs(0)", office.signs(0), 1);
        EXPECT.same("number(999999)", office.number(999999), 1);
        EXPECT.same("set(0)", office.set(0), 1);
        EXPECT.same("value(0)", office.value(0), 999999);
        for (int wrong : new int[] {-1, 1000000, Integer.MIN_VALUE, Integer.MAX_VALUE}) {
            EXPECT.fails(office, IllegalArgumentException.class, "number(" + wrong + ")", () -> office.number(wrong));
        }
    }

    private static void cell() {
        GoalseekOffice office = new GoalseekOffice();
        office.put(29, 4);
        EXPECT.same("cell(29)", office.cell(29), 1);
        EXPECT.same("sign(0)", office.sign(0), 2);
        EXPECT.same("cell(0)", office.cell(0), 3);
        EXPECT.same("set(1)", office.set(1), 1);
        EXPECT.same("value(1)", office.value(1), 4);
        EXPECT.same("depends(1, 0)", office.depends(1, 0), true);
        for (int wrong : new int[] {-1, 30, Integer.MIN_VALUE, Integer.MAX_VALUE}) {
            EXPECT.fails(office, IndexOutOfBoundsException.class, "cell(" + wrong + ")", () -> office.cell(wrong));
        }
    }

    private static void sign() {
        GoalseekOffice office = new GoalseekOffice();
        for (int code = 0; code <= 5; code++) {
            EXPECT.same("sign(" + code + ")", office.sign(code), code + 1);
        }
        for (int wrong : new int[] {-1, 6, 36, Integer.MIN_VALUE, Integer.MAX_VALUE}) {
            EXPECT.fails(office, IllegalArgumentException.class, "sign(" + wrong + ")", () -> office.sign(wrong));
        }
    }

    private static void fullDraft() {
        GoalseekOffice office = new GoalseekOffice();
        for (int count = 1; count <= 15; count++) {
            EXPECT.same("number(1), the " + count + "th", office.number(1), count);
        }
        EXPECT.fails(office, IllegalStateException.class, "number(1), the 16th", () -> office.number(1));
        EXPECT.fails(office, IllegalStateException.class, "cell(1), the 16th", () -> office.cell(1));
        EXPECT.fails(office, IllegalStateException.class, "sign(1), the 16th", () -> office.sign(1));
        EXPECT.fails(office, IllegalArgumentException.class, "number(-1), the 16th", () -> office.number(-1));
        EXPECT.fails(office, IndexOutOfBoundsException.class, "cell(30), the 16th", () -> office.cell(30));
        EXPECT.fails(office, IllegalArgumentException.class, "sign(6), the 16th", () -> office.sign(6));
        EXPECT.same("wipe()", office.wipe(), 15);
        EXPECT.same("number(2) after it", office.number(2), 1);
    }

    private static void wipeAndDrafted() {
        GoalseekOffice office = new GoalseekOffice();
        EXPECT.same("wipe() of no signs", office.wipe(), 0);
        Written.draft(office, "1 + + c3");
        EXPECT.same("drafted()", office.drafted(), 4);
        EXPECT.same("drafted() again", office.drafted(), 4);
        EXPECT.same("wipe()", office.wipe(), 4);
        EXPECT.same("drafted() after wipe()", office.drafted(), 0);
        EXPECT.same("fault() after wipe()", office.fault(), 0);
        EXPECT.same("wipe() again", office.wipe(), 0);
        Written.draft(office, "7");
        office.put(4, 8);
        office.clear(4);
        office.open();
        office.put(4, 9);
        office.drop();
        EXPECT.same("drafted() after calls that are not for it", office.drafted(), 1);
        office.set(5);
        EXPECT.same("drafted() after set()", office.drafted(), 0);
        EXPECT.same("value(5)", office.value(5), 7);
    }

    private static void faultOfFormulas() {
        String[] formulas = {"1", "c0", "-1", "--c2", "(1)", "((c3))", "-(1)", "1 + 2 - 3 * 4 / c5", "1 + -2",
            "1 * -2", "1 - -2", "1 / - - 3", "-(-(-1))", "(1 + 2) * (3 - 4)", "((1) + (2))", "(((((((1)))))))"};
        for (String formula : formulas) {
            fault(formula, GoalseekOffice.NONE);
        }
    }

    private static void faultPlaces() {
        fault("", 0);
        fault("+", 0);
        fault("*", 0);
        fault("/ 1", 0);
        fault(")", 0);
        fault("1 2", 1);
        fault("1 c2", 1);
        fault("c2 c2", 1);
        fault("c2 1", 1);
        fault("1 (", 1);
        fault("c1 ( 2 )", 1);
        fault("1 )", 1);
        fault("1 + + 2", 2);
        fault("1 + * 2", 2);
        fault("1 - / 2", 2);
        fault("1 * )", 2);
        fault("- + 1", 1);
        fault("- )", 1);
        fault("( )", 1);
        fault("( * 1 )", 1);
        fault("( 1 + )", 3);
        fault("( 1 ) 2", 3);
        fault("( 1 ) ( 2 )", 3);
        fault("( 1 ) )", 3);
        fault("( ( 1 ) ) ) + *", 5);
        fault("1 + 2 3 + + )", 3);
        fault("-", 1);
        fault("- -", 2);
        fault("1 +", 2);
        fault("1 -", 2);
        fault("1 * -", 3);
        fault("(", 1);
        fault("( 1", 2);
        fault("( 1 +", 3);
        fault("( ( 1 )", 4);
    }

    private static void faultOfLongDrafts() {
        fault("(((((((((((((((", 15);
        fault("---------------", 15);
        fault("((((((((1))))))", 15);
        fault("((((((1))))))))", 13);
        fault("1+1+1+1+1+1+1+1", GoalseekOffice.NONE);
        fault("1+1+1+1+1+1+1(1", 13);
    }

    private static void fault(String formula, int due) {
        GoalseekOffice office = new GoalseekOffice();
        Written.draft(office, formula);
        EXPECT.same("fault() of " + formula, office.fault(), due);
        EXPECT.same("fault() again of " + formula, office.fault(), due);
    }
}
