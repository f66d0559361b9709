import java.util.function.IntSupplier;

/** Counts checks that hold and fail, and tells of each that fails. */
final class Checks {
    private final String program;
    private int passed = 0;
    private int failed = 0;

    Checks(String program) {
        this.program = program;
    }

    void same(String what, long got, long due) {
        check(what + " answered " + got + ", due is " + due, got == due);
    }

    void same(String what, String got, String due) {
        check(what + " answered " + got + ", due is " + due, got.equals(due));
    }

    void fails(String what, Class<? extends RuntimeException> due, IntSupplier call) {
        same(what, outcome(call), "throws." + due.getSimpleName());
    }

    /** What a call comes to: its answer, or throws. and the name of what it throws. */
    static String outcome(IntSupplier call) {
        try {
            return String.valueOf(call.getAsInt());
        } catch (RuntimeException thrown) {
            return "throws." + thrown.getClass().getSimpleName();
        }
    }

    private void check(String what, boolean holds) {
        if (holds) {
            passed++;
        } else {
            failed++;
            System.out.println(program + ": " + what);
        }
    }

    void end() {
        System.out.println(program + ": " + passed + " passed, " + failed + " failed");
        if (failed != 0 || passed == 0) {
            System.exit(1);
        }
    }
}
