/** Promise 21: how many values have been found anew since the beginning. */
public final class FoundAnewTest {
    private static final Expect EXPECT = new Expect();

    public static void main(String[] args) {
        setPutAndClear();
        drop();
        seek();
        callsThatAsk();
        EXPECT.end();
    }

    private static void setPutAndClear() {
        GoalseekOffice office = new GoalseekOffice();
        EXPECT.same("foundAnew()", office.foundAnew(), 0);
        office.put(0, 1);
        EXPECT.same("foundAnew() after put(0, 1)", office.foundAnew(), 1);
        Written.give(office, 1, "c0");
        Written.give(office, 2, "c0 + c1");
        EXPECT.same("foundAnew() after set(1) and set(2)", office.foundAnew(), 3);
        office.put(0, 1);
        EXPECT.same("foundAnew() after put(0, 1) again", office.foundAnew(), 6);
        office.clear(1);
        EXPECT.same("foundAnew() after clear(1)", office.foundAnew(), 8);
        office.clear(1);
        EXPECT.same("foundAnew() after clear(1) again", office.foundAnew(), 8);
    }

    private static void drop() {
        GoalseekOffice office = new GoalseekOffice();
        Written.give(office, 1, "c0");
        Written.give(office, 2, "c1");
        Written.give(office, 3, "c0 + c2");
        office.open();
        EXPECT.same("foundAnew() after open()", office.foundAnew(), 3);
        EXPECT.same("put(0, 4)", office.put(0, 4), 4);
        EXPECT.same("put(1, 4)", office.put(1, 4), 3);
        EXPECT.same("foundAnew()", office.foundAnew(), 10);
        EXPECT.same("drop()", office.drop(), 2);
        // Cells 0 and 1 have other formulas; 2 and 3 depend on both, and count once.
        EXPECT.same("foundAnew() after drop()", office.foundAnew(), 14);
        office.open();
        EXPECT.same("drop() of nothing", office.drop(), 0);
        EXPECT.same("foundAnew() after drop() of nothing", office.foundAnew(), 14);
        office.open();
        office.put(1, 4);
        office.keep();
        EXPECT.same("foundAnew() after keep()", office.foundAnew(), 17);
        dropOfADependency();
    }

    /** The cells that count are those that depend on the others once the formulas are back. */
    private static void dropOfADependency() {
        GoalseekOffice office = new GoalseekOffice();
        office.put(0, 1);
        office.open();
        Written.give(office, 5, "c0");
        Written.give(office, 6, "c5");
        office.put(0, 2);
        EXPECT.same("foundAnew()", office.foundAnew(), 6);
        EXPECT.same("drop()", office.drop(), 3);
        EXPECT.same("foundAnew() after drop()", office.foundAnew(), 9);
        Written.give(office, 5, "c0");
        Written.give(office, 6, "c5");
        office.open();
        office.clear(6);
        office.clear(5);
        office.put(0, 3);
        EXPECT.same("foundAnew()", office.foundAnew(), 14);
        office.put(5, 7);
        Written.give(office, 5, "c0");
        EXPECT.same("foundAnew()", office.foundAnew(), 16);
        EXPECT.same("drop()", office.drop(), 2);
        EXPECT.same("foundAnew() after drop()", office.foundAnew(), 19);
    }

    private static void seek() {
        GoalseekOffice office = new GoalseekOffice();
        Written.give(office, 1, "c0 * 2");
        Written.give(office, 2, "c1 + c0");
        EXPECT.same("foundAnew()", office.foundAnew(), 2);
        EXPECT.same("seek(1, 40, 0, 0, 100)", office.seek(1, 40, 0, 0, 100), 20);
        EXPECT.same("foundAnew() after seek()", office.foundAnew(), 5);
        EXPECT.same("seek() of the same again", office.seek(1, 40, 0, 0, 100), 20);
        EXPECT.same("foundAnew() after seek() again", office.foundAnew(), 8);
        EXPECT.fails(office, java.util.NoSuchElementException.class, "seek(1, 400, 0, 0, 100)",
                () -> office.seek(1, 400, 0, 0, 100));
        EXPECT.same("foundAnew() after seek() of none", office.foundAnew(), 8);
    }

    private static void callsThatAsk() {
        GoalseekOffice office = new GoalseekOffice();
        Written.give(office, 1, "c0 / 0");
        String before = Asked.all(office);
        EXPECT.same("all that can be asked, again", Asked.all(office), before);
        EXPECT.same("foundAnew() after calls that ask", office.foundAnew(), 1);
        Written.draft(office, "1 2");
        EXPECT.fails(office, IllegalArgumentException.class, "set(0)", () -> office.set(0));
        EXPECT.same("foundAnew() after set() that throws", office.foundAnew(), 1);
    }
}
