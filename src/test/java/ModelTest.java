import java.util.function.LongSupplier;

/** Runs of 512 calls on the program and on the model, which must answer alike: all promises. */
public final class ModelTest {
    private static final int RUNS = 240;
    private static final int CALLS = 512;
    private static final Expect EXPECT = new Expect();

    private final GoalseekOffice office = new GoalseekOffice();
    private final Model model = new Model();
    private final StringBuilder told = new StringBuilder();
    private final int cells;
    private final int greatest;
    private long state;

    private ModelTest(int run) {
        state = 1000003L * run + 17;
        cells = run % 3 == 0 ? 30 : run % 3 == 1 ? 4 : 8;
        greatest = run % 2 == 0 ? 999999 : 12;
    }

    public static void main(String[] args) {
        for (int run = 0; run < RUNS; run++) {
            new ModelTest(run).run(run);
        }
        EXPECT.end();
    }

    private void run(int run) {
        told.append("run ").append(run).append(':');
        for (int call = 0; call < CALLS; call++) {
            if (!step()) {
                EXPECT.same(told.toString(), false, true);
                return;
            }
        }
        EXPECT.same("run " + run, true, true);
    }

    /** One call, or a formula written whole and given to a cell; false if the two do not answer alike. */
    private boolean step() {
        int which = below(40);
        switch (which) {
            case 0: return number(below(40) == 0 ? odd() : below(greatest + 1));
            case 1: return cell(anyCell());
            case 2: return sign(below(40) == 0 ? odd() : below(6));
            case 3: return below(3) > 0 || alike("wipe()", office::wipe, model::wipe);
            case 4: return alike("fault()", office::fault, model::fault);
            case 5: return set(anyCell());
            case 6: case 7: case 8: return put();
            case 9: return clear(anyCell());
            case 10: case 11: return alike("open()", office::open, model::open);
            case 12: case 13: return alike("drop()", office::drop, model::drop);
            case 14: return alike("keep()", office::keep, model::keep);
            case 15: return alike("faulty()", office::faulty, model::faulty);
            case 16: return alike("foundAnew()", office::foundAnew, model::foundAnew);
            case 17: return alike("layers()", office::layers, model::layers);
            case 18: return alike("drafted()", office::drafted, model::drafted);
            case 19: case 20: case 21: case 22: case 23: return seek();
            case 24: case 25: case 26: return ask(anyCell(), anyCell());
            case 27: return noise();
            default: return formula();
        }
    }

    private boolean number(int number) {
        return alike("number(" + number + ")", () -> office.number(number), () -> model.number(number));
    }

    private boolean cell(int cell) {
        return alike("cell(" + cell + ")", () -> office.cell(cell), () -> model.cell(cell));
    }

    private boolean sign(int code) {
        return alike("sign(" + code + ")", () -> office.sign(code), () -> model.sign(code));
    }

    private boolean set(int cell) {
        return alike("set(" + cell + ")", () -> office.set(cell), () -> model.set(cell));
    }

    private boolean clear(int cell) {
        return alike("clear(" + cell + ")", () -> office.clear(cell), () -> model.clear(cell));
    }

    private boolean put() {
        int cell = anyCell();
        int number = below(40) == 0 ? odd() : below(greatest + 1);
        return alike("put(" + cell + ", " + number + ")", () -> office.put(cell, number),
            () -> model.put(cell, number));
    }

    private boolean seek() {
        int goal = anyCell();
        int input = below(5) == 0 ? anyCell() : inputOf(goal);
        int target = below(40) == 0 ? odd() : below(2) == 0 ? below(200) - 50 : near(goal);
        int low = below(40) == 0 ? odd() : below(3) == 0 ? below(greatest + 1) : below(4);
        int high = below(40) == 0 ? odd() : low >= 0 && low < 999999 ? low + below(1000000 - low) : low;
        String call = "seek(" + goal + ", " + target + ", " + input + ", " + low + ", " + high + ")";
        return alike(call, () -> office.seek(goal, target, input, low, high),
            () -> model.seek(goal, target, input, low, high));
    }

    /** A cell that can be the input of the goal, if there is one. */
    private int inputOf(int goal) {
        int from = below(cells);
        for (int i = 0; i < cells; i++) {
            int cell = (from + i) % cells;
            if (goal >= 0 && goal < cells && model.signs(cell) < 2 && model.depends(goal, cell)) {
                return cell;
            }
        }
        return from;
    }

    /** A target that is near the value of the goal as it stands, if it has one. */
    private int near(int goal) {
        String value = answer(() -> model.value(goal));
        if (value.startsWith("throws") || value.length() > 9) {
            return below(2000000001) - 1000000000;
        }
        return Integer.parseInt(value) + below(7) - 3;
    }

    private boolean ask(int cell, int other) {
        return alike("value(" + cell + ")", () -> office.value(cell), () -> model.value(cell))
            && alike("valueAnew(" + cell + ")", () -> office.valueAnew(cell), () -> model.value(cell))
            && alike("signs(" + cell + ")", () -> office.signs(cell), () -> model.signs(cell))
            && alike("level(" + cell + ")", () -> office.level(cell), () -> model.level(cell))
            && alike("depends(" + cell + ", " + other + ")", () -> office.depends(cell, other) ? 1 : 0,
                () -> model.depends(cell, other) ? 1 : 0);
    }

    /** A draft of any signs, mostly no formula. */
    private boolean noise() {
        boolean alike = true;
        for (int count = below(8); count > 0 && alike; count--) {
            int kind = below(4);
            alike = kind == 0 ? number(below(greatest + 1)) : kind == 1 ? cell(anyCell()) : sign(below(6));
        }
        return alike && alike("fault()", office::fault, model::fault);
    }

    /** A formula given to a cell; what stands in the draft is mostly wiped first. */
    private boolean formula() {
        boolean alike = below(10) == 0 || alike("wipe()", office::wipe, model::wipe);
        return alike && sum(0) && alike("fault()", office::fault, model::fault) && set(anyCell());
    }

    private boolean sum(int depth) {
        boolean alike = product(depth);
        for (int more = below(3); more > 0 && alike; more--) {
            alike = sign(below(2)) && product(depth);
        }
        return alike;
    }

    private boolean product(int depth) {
        boolean alike = factor(depth);
        for (int more = below(5) / 3; more > 0 && alike; more--) {
            alike = sign(2 + below(2)) && factor(depth);
        }
        return alike;
    }

    private boolean factor(int depth) {
        int kind = below(8);
        if (kind == 0 && depth < 4) {
            return sign(4) && sum(depth + 1) && sign(5);
        }
        if (kind == 1 && depth < 4) {
            return sign(1) && factor(depth + 1);
        }
        return kind < 4 ? number(below(greatest + 1)) : cell(anyCell());
    }

    private boolean alike(String name, LongSupplier ofOffice, LongSupplier ofModel) {
        String got = answer(ofOffice);
        String due = answer(ofModel);
        told.append(' ').append(name).append('=').append(got);
        boolean alike = got.equals(due);
        if (!alike) {
            told.append(", due is ").append(due);
        }
        return alike && (name.charAt(0) == 'v' || valuesAlike());
    }

    /** All values and counts, after every call. */
    private boolean valuesAlike() {
        boolean alike = office.faulty() == model.faulty() && office.foundAnew() == model.foundAnew()
            && office.drafted() == model.drafted() && office.layers() == model.layers();
        for (int cell = 0; cell < cells && alike; cell++) {
            int asked = cell;
            alike = answer(() -> office.value(asked)).equals(answer(() -> model.value(asked)));
        }
        return alike;
    }

    private static String answer(LongSupplier call) {
        try {
            return Long.toString(call.getAsLong());
        } catch (RuntimeException thrown) {
            return "throws." + thrown.getClass().getName();
        }
    }

    private int anyCell() {
        return below(60) == 0 ? odd() : below(cells);
    }

    /** A number that is out of some range, or at its edge. */
    private int odd() {
        int[] numbers = {-1, 30, 29, 6, 5, 999999, 1000000, 1000000000, 1000000001, -1000000000, -1000000001,
            Integer.MIN_VALUE, Integer.MAX_VALUE};
        return numbers[below(numbers.length)];
    }

    /** The next of a row of numbers that is the same each time, 0 to count - 1. */
    private int below(int count) {
        state = state * 6364136223846793005L + 1442695040888963407L;
        return (int) ((state >>> 33) % count);
    }
}
