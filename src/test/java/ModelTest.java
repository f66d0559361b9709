import java.util.Random;
import java.util.function.IntSupplier;

/** Runs of 512 calls by fixed seeds, right ones and wrong ones, each compared with the model. */
public final class ModelTest {
    private static final int RUNS = 4000;
    private static final int CALLS = 512;
    private static final int[] CODES = {
        180, 180, 200, 200, 250, 299, 300, 302, 404, 408, 480, 486, 487, 500, 599, 600, 603, 699
    };
    private static final int[] WRONG = {-1, 0, 5, 6, 10, 11, 12, 15, 16, 20, 100, 101, 179, 181, 199, 700,
        1000, 1001, 10000, 10001, Integer.MIN_VALUE, Integer.MAX_VALUE};

    private final Checks checks;
    private final int run;
    private final Random random;
    private final CallForker forker = new CallForker();
    private final Model model = new Model();
    /** How many users and devices the run uses: with few of them, calls meet more often. */
    private final int users;
    private final int devices;
    private final int lasts;
    private final boolean mayBeWrong;

    private ModelTest(Checks checks, int run) {
        this.checks = checks;
        this.run = run;
        this.random = new Random(run);
        this.users = 1 + random.nextInt(6);
        this.devices = 1 + random.nextInt(10);
        this.lasts = new int[] {5, 60, 1000}[random.nextInt(3)];
        this.mayBeWrong = random.nextInt(4) == 0;
    }

    public static void main(String[] arguments) {
        Checks checks = new Checks("ModelTest");
        for (int run = 0; run < RUNS; run++) {
            new ModelTest(checks, run).play();
        }
        checks.end();
    }

    private void play() {
        int start = 5 + random.nextInt(40);
        int said = 0;
        while (said < CALLS - 160) {
            said += said < start ? register() : step();
        }
        askAll(CALLS - said);
    }

    private int any(int bound) {
        if (mayBeWrong && random.nextInt(8) == 0) {
            return WRONG[random.nextInt(WRONG.length)];
        }
        return random.nextInt(bound);
    }

    private int compare(String what, IntSupplier got, IntSupplier due) {
        checks.same("run " + run + ": " + what, Checks.outcome(got), Checks.outcome(due));
        return 1;
    }

    private int register() {
        int user = any(users);
        int target = random.nextInt(3) == 0 ? 10 + any(users) : any(devices);
        int quality = any(random.nextBoolean() ? 3 : 11);
        int ticks = random.nextInt(6) == 0 ? 0 : any(lasts + 1);
        int sequence = any(1 + random.nextInt(60));
        return compare("register(" + user + ", " + target + ", " + quality + ", " + ticks + ", " + sequence + ")",
                () -> forker.register(user, target, quality, ticks, sequence),
                () -> model.register(user, target, quality, ticks, sequence));
    }

    /** Mostly one of the calls that are not ended for long, so that more than 20 calls' worth happens. */
    private int someCall() {
        int calls = Math.max(1, model.calls());
        return random.nextInt(4) == 0 ? any(calls + 1) : Math.max(0, calls - 1 - random.nextInt(3));
    }

    private int step() {
        int kind = random.nextInt(20);
        if (kind < 2) {
            return register();
        }
        if (kind < 4) {
            int user = any(users);
            return compare("call(" + user + ")", () -> forker.call(user), () -> model.call(user));
        }
        if (kind < 12) {
            return answer();
        }
        if (kind == 12 && random.nextInt(3) == 0) {
            int call = someCall();
            return compare("cancel(" + call + ")", () -> forker.cancel(call), () -> model.cancel(call));
        }
        if (kind < 15) {
            int ticks = 1 + any(random.nextInt(10) == 0 ? 100 : 6);
            return compare("pass(" + ticks + ")", () -> forker.pass(ticks), () -> model.pass(ticks));
        }
        return ask();
    }

    private int answer() {
        int call = someCall();
        int device = any(devices);
        int code = random.nextInt(3) == 0 ? any(800) : CODES[random.nextInt(CODES.length)];
        return compare("answer(" + call + ", " + device + ", " + code + ")",
                () -> forker.answer(call, device, code), () -> model.answer(call, device, code));
    }

    private int ask() {
        int call = someCall();
        int branch = any(13);
        int user = any(users);
        int place = any(7);
        return switch (random.nextInt(5)) {
            case 0 -> compare("binding(" + user + ", " + place + ")",
                    () -> forker.binding(user, place), () -> model.binding(user, place));
            case 1 -> compare("finalBySorting(" + call + ")",
                    () -> forker.finalBySorting(call), () -> model.finalBySorting(call));
            case 2 -> compare("device(" + call + ", " + branch + ")",
                    () -> forker.device(call, branch), () -> model.device(call, branch));
            case 3 -> compare("answered(" + call + ")", () -> forker.answered(call), () -> model.answered(call));
            default -> compare("state(" + call + ", " + branch + ")",
                    () -> forker.state(call, branch), () -> model.state(call, branch));
        };
    }

    /** Asks for what has come of it all, as far as the number of calls allows. */
    private void askAll(int left) {
        int said = compare("time()", forker::time, model::time) + compare("calls()", forker::calls, model::calls);
        for (int device = 0; device < 10; device++) {
            int one = device;
            said += compare("hungUp(" + one + ")", () -> forker.hungUp(one), () -> model.hungUp(one));
        }
        for (int user = 0; user < 6; user++) {
            int one = user;
            said += compare("bindings(" + one + ")", () -> forker.bindings(one), () -> model.bindings(one));
        }
        for (int call = 0; call < model.calls() && said + 6 < left; call++) {
            int one = call;
            said += compare("finalOf(" + one + ")", () -> forker.finalOf(one), () -> model.finalOf(one));
            said += compare("finalBySorting(" + one + ")",
                    () -> forker.finalBySorting(one), () -> model.finalBySorting(one));
            said += compare("branches(" + one + ")", () -> forker.branches(one), () -> model.branches(one));
            said += compare("answered(" + one + ")", () -> forker.answered(one), () -> model.answered(one));
            for (int branch = 0; branch < model.branches(one) && said < left; branch++) {
                int at = branch;
                said += compare("state(" + one + ", " + at + ")",
                        () -> forker.state(one, at), () -> model.state(one, at));
            }
        }
    }
}
