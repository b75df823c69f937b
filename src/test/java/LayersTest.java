/** Promises 10 to 13: layers are opened, dropped and kept. */
public final class LayersTest {
    private static final Expect EXPECT = new Expect();

    public static void main(String[] args) {
        openUpToFour();
        dropBringsFormulasBack();
        dropCountsCells();
        keepLeavesFormulas();
        keepUnderAnotherLayer();
        dropAndDraft();
        layersAreUsedAgain();
        EXPECT.end();
    }

    private static void openUpToFour() {
        GoalseekOffice office = new GoalseekOffice();
        EXPECT.fails(office, IllegalStateException.class, "drop() with none open", () -> office.drop());
        EXPECT.fails(office, IllegalStateException.class, "keep() with none open", () -> office.keep());
        for (int count = 1; count <= 4; count++) {
            EXPECT.same("open()", office.open(), count);
            EXPECT.same("layers()", office.layers(), count);
        }
        EXPECT.fails(office, IllegalStateException.class, "open() with 4 open", () -> office.open());
        EXPECT.same("keep()", office.keep(), 3);
        EXPECT.same("layers()", office.layers(), 3);
        EXPECT.same("drop()", office.drop(), 0);
        EXPECT.same("layers()", office.layers(), 2);
        EXPECT.same("open()", office.open(), 3);
        EXPECT.same("keep()", office.keep(), 2);
        EXPECT.same("keep()", office.keep(), 1);
        EXPECT.same("keep()", office.keep(), 0);
        EXPECT.fails(office, IllegalStateException.class, "keep() with none open again", () -> office.keep());
        EXPECT.fails(office, IllegalStateException.class, "drop() with none open again", () -> office.drop());
    }

    private static void dropBringsFormulasBack() {
        GoalseekOffice office = new GoalseekOffice();
        office.put(0, 5);
        Written.give(office, 1, "c0 * 2");
        office.open();
        office.put(0, 6);
        office.open();
        Written.give(office, 0, "1 / 0");
        Written.give(office, 1, "c2");
        Written.give(office, 2, "11");
        EXPECT.same("value(1)", office.value(1), 11);
        EXPECT.same("faulty()", office.faulty(), 1);
        EXPECT.same("drop()", office.drop(), 3);
        EXPECT.same("value(1) after drop()", office.value(1), 12);
        EXPECT.same("signs(2) after drop()", office.signs(2), 0);
        EXPECT.same("faulty() after drop()", office.faulty(), 0);
        EXPECT.same("depends(1, 2) after drop()", office.depends(1, 2), false);
        EXPECT.same("drop()", office.drop(), 1);
        EXPECT.same("value(1) after drop()", office.value(1), 10);
        EXPECT.same("valueAnew(1) after drop()", office.valueAnew(1), 10);
    }

    private static void dropCountsCells() {
        GoalseekOffice office = new GoalseekOffice();
        Written.give(office, 0, "1 + c5");
        Written.give(office, 1, "c0");
        office.open();
        EXPECT.same("drop() of nothing", office.drop(), 0);
        office.open();
        office.put(0, 9);
        Written.give(office, 0, "1 + c5");
        office.put(2, 1);
        office.clear(2);
        EXPECT.same("drop() of the same signs", office.drop(), 0);
        office.open();
        Written.give(office, 0, "c5 + 1");
        EXPECT.same("drop() of the same signs in another order", office.drop(), 1);
        office.open();
        Written.give(office, 0, "1 - c5");
        EXPECT.same("drop() of another sign and the same value", office.drop(), 1);
        office.open();
        Written.give(office, 0, "1 + c6");
        EXPECT.same("drop() of another cell and the same value", office.drop(), 1);
        office.open();
        office.put(2, 0);
        EXPECT.same("drop() of 0 in place of an empty cell", office.drop(), 1);
        office.open();
        for (int cell = 0; cell < 30; cell++) {
            office.put(cell, 77);
        }
        EXPECT.same("drop() of all cells", office.drop(), 30);
        EXPECT.same("value(1)", office.value(1), 1);
    }

    private static void keepLeavesFormulas() {
        GoalseekOffice office = new GoalseekOffice();
        office.put(0, 1);
        office.open();
        office.put(0, 2);
        EXPECT.same("keep()", office.keep(), 0);
        EXPECT.same("value(0) after keep()", office.value(0), 2);
        EXPECT.fails(office, IllegalStateException.class, "drop() after keep()", () -> office.drop());
    }

    private static void keepUnderAnotherLayer() {
        GoalseekOffice office = new GoalseekOffice();
        office.put(0, 1);
        office.open();
        office.put(0, 2);
        office.open();
        office.put(0, 3);
        office.put(1, 4);
        EXPECT.same("keep()", office.keep(), 1);
        EXPECT.same("value(0) after keep()", office.value(0), 3);
        EXPECT.same("drop() of the layer below", office.drop(), 2);
        EXPECT.same("value(0) after drop()", office.value(0), 1);
        EXPECT.same("signs(1) after drop()", office.signs(1), 0);
    }

    private static void dropAndDraft() {
        GoalseekOffice office = new GoalseekOffice();
        Written.draft(office, "1 +");
        office.open();
        Written.draft(office, "2");
        EXPECT.same("drop()", office.drop(), 0);
        EXPECT.same("drafted() after drop()", office.drafted(), 3);
        office.open();
        office.wipe();
        EXPECT.same("drop()", office.drop(), 0);
        EXPECT.same("drafted() after drop()", office.drafted(), 0);
        Written.draft(office, "5");
        office.open();
        EXPECT.same("drafted() after open()", office.drafted(), 1);
        office.keep();
        EXPECT.same("drafted() after keep()", office.drafted(), 1);
        office.open();
        office.set(3);
        office.drop();
        EXPECT.same("drafted() after set() and drop()", office.drafted(), 0);
        EXPECT.same("signs(3) after set() and drop()", office.signs(3), 0);
    }

    private static void layersAreUsedAgain() {
        GoalseekOffice office = new GoalseekOffice();
        for (int turn = 0; turn < 6; turn++) {
            office.put(7, turn);
            for (int layer = 1; layer <= 4; layer++) {
                office.open();
                office.put(7, 100 * turn + layer);
                office.put(layer, turn);
            }
            for (int layer = 4; layer >= 1; layer--) {
                EXPECT.same("drop()", office.drop(), 2);
                EXPECT.same("value(7)", office.value(7), layer == 1 ? turn : 100 * turn + layer - 1);
                EXPECT.same("signs(" + layer + ")", office.signs(layer), 0);
            }
        }
    }
}
