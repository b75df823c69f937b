import java.util.function.LongSupplier;

/** Compares answers with the due ones, prints every one that is wrong, and ends a test with exit code 1 then. */
final class Expect {
    private int compared;
    private int wrong;
    private String sentence = "";

    /** The sentence of the document that the following calls test; it is told ahead of their wrong answers. */
    void sentence(String words) {
        sentence = "[" + words + "] ";
    }

    /** Runs the test of one sentence; what it throws counts as wrong and leaves the other tests to run. */
    void test(Runnable test) {
        sentence = "";
        try {
            test.run();
        } catch (RuntimeException thrown) {
            report("a call threw " + thrown);
        }
        sentence = "";
    }

    void same(String call, long got, long due) {
        compared++;
        if (got != due) {
            report(call + " answered " + got + ", due is " + due);
        }
    }

    void same(String call, boolean got, boolean due) {
        same(call, got ? 1 : 0, due ? 1 : 0);
    }

    void same(String call, String got, String due) {
        compared++;
        if (!got.equals(due)) {
            report(call + " answered " + got + ", due is " + due);
        }
    }

    /** The call must throw just this class, no class below it, and change nothing that can be asked. */
    void fails(GoalseekOffice office, Class<? extends RuntimeException> due, String name, LongSupplier call) {
        compared++;
        String before = Asked.all(office);
        try {
            long got = call.getAsLong();
            report(name + " answered " + got + ", due is " + due.getName());
        } catch (RuntimeException thrown) {
            if (thrown.getClass() != due) {
                report(name + " threw " + thrown.getClass().getName() + ", due is " + due.getName());
            }
        }
        same("all that can be asked after " + name, Asked.all(office), before);
    }

    private void report(String line) {
        wrong++;
        System.out.println(sentence + line);
    }

    void end() {
        System.out.println(compared + " answers compared, " + wrong + " wrong");
        if (wrong != 0 || compared == 0) {
            System.exit(1);
        }
    }
}
