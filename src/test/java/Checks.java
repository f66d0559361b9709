import java.util.function.IntSupplier;
import java.util.function.Supplier;
import java.util.function.ToIntFunction;

/** Counts checks that hold and fail, and tells of each that fails. */
final class Checks {
    private final String program;
    private int passed = 0;
    private int failed = 0;

    Checks(String program) {
        this.program = program;
    }

    void same(String what, long got, long due) {
        check(what + " answered " + got + ", due is " + due, got == due);
    }

    void same(String what, String got, String due) {
        check(what + " answered " + got + ", due is " + due, got.equals(due));
    }

    void fails(String what, Class<? extends RuntimeException> due, IntSupplier call) {
        same(what, outcome(call), "throws." + due.getSimpleName());
    }

    void states(String what, CallForker forker, int call, String due) {
        same("the states " + what, Forkers.states(forker, call), due);
    }

    void devices(String what, CallForker forker, int call, String due) {
        same("the devices " + what, Forkers.devices(forker, call), due);
    }

    void row(String what, CallForker forker, int user, String due) {
        same("the bindings " + what, Forkers.row(forker, user), due);
    }

    void finals(String what, CallForker forker, int call, int due) {
        same("finalOf " + what, outcome(() -> forker.finalOf(call)), String.valueOf(due));
        same("finalBySorting " + what, outcome(() -> forker.finalBySorting(call)), String.valueOf(due));
    }

    /**
     * Checks that a call throws and changes nothing: a forker made alike, without that call, tells the same,
     * also when time has gone by.
     */
    void refused(String what, Class<? extends RuntimeException> due, Supplier<CallForker> made,
            ToIntFunction<CallForker> call) {
        CallForker asked = made.get();
        CallForker left = made.get();
        fails(what, due, () -> call.applyAsInt(asked));
        same("after what throws, " + what, Forkers.all(asked), Forkers.all(left));
        same("the end after what throws, " + what, asked.pass(10), left.pass(10));
        same("later after what throws, " + what, Forkers.all(asked), Forkers.all(left));
    }

    /** What a call comes to: its answer, or throws. and the name of what it throws. */
    static String outcome(IntSupplier call) {
        try {
            return String.valueOf(call.getAsInt());
        } catch (RuntimeException thrown) {
            return "throws." + thrown.getClass().getSimpleName();
        }
    }

    private void check(String what, boolean holds) {
        if (holds) {
            passed++;
        } else {
            failed++;
            System.out.println(program + ": " + what);
        }
    }

    void end() {
        System.out.println(program + ": " + passed + " passed, " + failed + " failed");
        if (failed != 0 || passed == 0) {
            System.exit(1);
        }
    }
}
