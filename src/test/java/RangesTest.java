import java.util.function.Supplier;

/** Each range that the document names: both its ends, what is outside, and which exception comes first. */
public final class RangesTest {
    private static final Class<IllegalArgumentException> ARGUMENT = IllegalArgumentException.class;
    private static final Class<IllegalStateException> STATE = IllegalStateException.class;
    private static final Class<IndexOutOfBoundsException> INDEX = IndexOutOfBoundsException.class;

    private final Checks checks = new Checks("RangesTest");

    private RangesTest() {
    }

    public static void main(String[] arguments) {
        RangesTest test = new RangesTest();
        test.usersAreZeroToFive();
        test.targetsAreZeroToFifteen();
        test.qualitiesAreZeroToTen();
        test.ticksOfABindingAreZeroToThousand();
        test.sequencesAreZeroToTenThousand();
        test.placesAreThoseThatAreThere();
        test.devicesAreZeroToNine();
        test.codesAreRingingOrFinal();
        test.ticksOfAPassAreOneToHundred();
        test.callNumbersAreThoseThatWere();
        test.branchNumbersAreThoseOfTheCall();
        test.ofSeveralExceptionsRegisterThrowsTheFirst();
        test.ofSeveralExceptionsTheOthersThrowTheFirst();
        test.checks.end();
    }

    /** What is just outside, far outside, and outside but within when cut to fewer bits. */
    private static int[] outside(int least, int most) {
        return new int[] {
            least - 1, least - 2, least - 256, least - 65536, Integer.MIN_VALUE, Integer.MIN_VALUE + most,
            most + 1, most + 2, least + 256 * (1 + most / 256), least + 65536, Integer.MAX_VALUE
        };
    }

    /** A forker with bindings for two users, a call in its first group, an answered one, and one of nobody. */
    private static CallForker used() {
        CallForker forker = Forkers.withDevices(5, 5, 3);
        Forkers.bind(forker, 1, 4, 15, 9);
        forker.pass(1);
        forker.call(0);
        forker.call(0);
        forker.answer(0, 0, 180);
        forker.answer(1, 0, 404);
        forker.answer(1, 1, 200);
        forker.call(5);
        return forker;
    }

    private static CallForker withTwentyCalls() {
        CallForker forker = Forkers.withDevices(5);
        for (int call = 0; call < 20; call++) {
            forker.call(call == 0 ? 0 : 1);
        }
        return forker;
    }

    private void usersAreZeroToFive() {
        for (int user = 0; user <= 5; user++) {
            CallForker forker = new CallForker();
            checks.same("register of user " + user, forker.register(user, 3, 2, 1, 0), 1);
            checks.same("bindings of user " + user, forker.bindings(user), 1);
            checks.same("binding of user " + user, forker.binding(user, 0), 302);
            checks.same("call of user " + user, forker.call(user), 0);
            checks.devices("of user " + user, forker, 0, "3");
        }
        for (int wrong : outside(0, 5)) {
            checks.refused("register of user " + wrong, ARGUMENT, RangesTest::used,
                    forker -> forker.register(wrong, 3, 2, 1, 9));
            checks.refused("bindings of user " + wrong, ARGUMENT, RangesTest::used,
                    forker -> forker.bindings(wrong));
            checks.refused("binding of user " + wrong, ARGUMENT, RangesTest::used,
                    forker -> forker.binding(wrong, 0));
            checks.refused("call of user " + wrong, ARGUMENT, RangesTest::used, forker -> forker.call(wrong));
        }
    }

    private void targetsAreZeroToFifteen() {
        for (int target = 0; target <= 15; target++) {
            CallForker forker = new CallForker();
            checks.same("register of target " + target, forker.register(0, target, 7, 1, 0), 1);
            checks.same("binding of target " + target, forker.binding(0, 0), 100 * target + 7);
            if (target > 10) {
                forker.register(target - 10, 9, 4, 1, 0);
            }
            forker.call(0);
            checks.devices("by target " + target, forker, 0,
                    target < 10 ? String.valueOf(target) : target == 10 ? "-1" : "9");
        }
        for (int wrong : outside(0, 15)) {
            checks.refused("register of target " + wrong, ARGUMENT, RangesTest::used,
                    forker -> forker.register(0, wrong, 2, 1, 9));
        }
    }

    private void qualitiesAreZeroToTen() {
        for (int quality = 0; quality <= 10; quality++) {
            CallForker forker = new CallForker();
            checks.same("register of quality " + quality, forker.register(0, 3, quality, 1, 0), 1);
            checks.same("binding of quality " + quality, forker.binding(0, 0), 300 + quality);
            forker.call(0);
            checks.states("of quality " + quality, forker, 0, "100");
        }
        for (int wrong : outside(0, 10)) {
            checks.refused("register of quality " + wrong, ARGUMENT, RangesTest::used,
                    forker -> forker.register(0, 3, wrong, 1, 9));
        }
    }

    private void ticksOfABindingAreZeroToThousand() {
        for (int ticks : new int[] {0, 1, 2, 999, 1000}) {
            checks.same("register for " + ticks, new CallForker().register(0, 3, 2, ticks, 0), ticks == 0 ? 0 : 1);
        }
        for (int wrong : outside(0, 1000)) {
            checks.refused("register for " + wrong, ARGUMENT, RangesTest::used,
                    forker -> forker.register(0, 3, 2, wrong, 9));
        }
    }

    private void sequencesAreZeroToTenThousand() {
        for (int sequence : new int[] {0, 1, 2, 9999, 10000}) {
            checks.same("register with " + sequence, new CallForker().register(0, 3, 2, 1, sequence), 1);
        }
        for (int wrong : outside(0, 10000)) {
            checks.refused("register with " + wrong, ARGUMENT, RangesTest::used,
                    forker -> forker.register(0, 3, 2, 1, wrong));
        }
    }

    private void placesAreThoseThatAreThere() {
        checks.same("place 0", used().binding(0, 0), 5);
        checks.same("place 2", used().binding(0, 2), 203);
        for (int wrong : outside(0, 2)) {
            checks.refused("place " + wrong, INDEX, RangesTest::used, forker -> forker.binding(0, wrong));
        }
        for (int wrong : new int[] {0, 1, -1, 5, 6}) {
            checks.refused("place of none " + wrong, INDEX, RangesTest::used, forker -> forker.binding(2, wrong));
        }
    }

    private void devicesAreZeroToNine() {
        for (int device = 0; device <= 9; device++) {
            CallForker forker = new CallForker();
            forker.register(0, device, 1, 9, 0);
            forker.call(0);
            checks.same("answer of device " + device, forker.answer(0, device, 408), 408);
            checks.same("too much of device " + device, forker.answer(0, device, 200), 408);
            checks.same("hungUp of device " + device, forker.hungUp(device), 1);
            checks.same("hungUp of another", forker.hungUp(9 - device), 0);
        }
        for (int wrong : outside(0, 9)) {
            checks.refused("answer of device " + wrong, ARGUMENT, RangesTest::used,
                    forker -> forker.answer(0, wrong, 200));
            checks.refused("hungUp of device " + wrong, ARGUMENT, RangesTest::used,
                    forker -> forker.hungUp(wrong));
        }
    }

    private void codesAreRingingOrFinal() {
        for (int code = -300; code <= 1300; code++) {
            CallForker forker = Forkers.called(5);
            int told = code;
            boolean ends = code >= 200 && code <= 699;
            String due = ends ? String.valueOf(code) : code == 180 ? "-1" : "throws.IllegalArgumentException";
            checks.same("answer " + code, Checks.outcome(() -> forker.answer(0, 0, told)), due);
            checks.same("the state after " + code, forker.state(0, 0), ends || code == 180 ? code : 100);
            checks.same("answered after " + code, forker.answered(0), ends && code < 300 ? 0 : -1);
        }
        for (int wrong : new int[] {-1, 0, 100, 179, 181, 199, 700, 180 + 65536}) {
            checks.refused("answer " + wrong, ARGUMENT, RangesTest::used, forker -> forker.answer(0, 1, wrong));
        }
        for (int wrong : outside(200, 699)) {
            checks.refused("answer " + wrong, ARGUMENT, RangesTest::used, forker -> forker.answer(0, 1, wrong));
        }
    }

    private void ticksOfAPassAreOneToHundred() {
        for (int ticks : new int[] {1, 2, 99, 100}) {
            CallForker forker = new CallForker();
            checks.same("pass " + ticks, forker.pass(ticks), 0);
            checks.same("time after " + ticks, forker.time(), ticks);
        }
        checks.refused("pass 0", ARGUMENT, RangesTest::used, forker -> forker.pass(0));
        for (int wrong : outside(1, 100)) {
            checks.refused("pass " + wrong, ARGUMENT, RangesTest::used, forker -> forker.pass(wrong));
        }
    }

    /** Asks all that takes a call's number, in the order of the face. */
    private void callNumber(String what, Supplier<CallForker> made, int call) {
        checks.refused("answer to " + what, INDEX, made, forker -> forker.answer(call, 0, 200));
        checks.refused("cancel of " + what, INDEX, made, forker -> forker.cancel(call));
        checks.refused("finalOf " + what, INDEX, made, forker -> forker.finalOf(call));
        checks.refused("finalBySorting of " + what, INDEX, made, forker -> forker.finalBySorting(call));
        checks.refused("branches of " + what, INDEX, made, forker -> forker.branches(call));
        checks.refused("device of " + what, INDEX, made, forker -> forker.device(call, 0));
        checks.refused("state of " + what, INDEX, made, forker -> forker.state(call, 0));
        checks.refused("answered of " + what, INDEX, made, forker -> forker.answered(call));
    }

    private void callNumbersAreThoseThatWere() {
        for (int wrong : outside(0, 2)) {
            callNumber("call " + wrong, RangesTest::used, wrong);
        }
        for (int wrong : new int[] {-1, 0, 1, 19, 20}) {
            callNumber("no call " + wrong, CallForker::new, wrong);
        }
        for (int wrong : new int[] {-1, 20, 21}) {
            callNumber("twenty calls " + wrong, RangesTest::withTwentyCalls, wrong);
        }
        CallForker full = withTwentyCalls();
        checks.same("answer to the first", full.answer(0, 0, 200), 200);
        checks.same("finalOf the last", full.finalOf(19), 480);
        checks.same("finalBySorting of the last", full.finalBySorting(19), 480);
        checks.same("branches of the last", full.branches(19), 0);
        checks.same("answered of the last", full.answered(19), -1);
    }

    private void branchNumbersAreThoseOfTheCall() {
        checks.same("device of branch 0", used().device(0, 0), 0);
        checks.same("device of branch 2", used().device(0, 2), 2);
        checks.same("state of branch 0", used().state(0, 0), 180);
        checks.same("state of branch 2", used().state(0, 2), 0);
        for (int wrong : outside(0, 2)) {
            checks.refused("device of branch " + wrong, INDEX, RangesTest::used,
                    forker -> forker.device(0, wrong));
            checks.refused("state of branch " + wrong, INDEX, RangesTest::used, forker -> forker.state(0, wrong));
        }
        for (int wrong : new int[] {-1, 0, 1, 11, 12}) {
            checks.refused("device of no branches " + wrong, INDEX, RangesTest::used,
                    forker -> forker.device(2, wrong));
            checks.refused("state of no branches " + wrong, INDEX, RangesTest::used,
                    forker -> forker.state(2, wrong));
        }
    }

    private void ofSeveralExceptionsRegisterThrowsTheFirst() {
        Supplier<CallForker> full = () -> Forkers.withDevices(1, 1, 1, 1, 1, 1);
        int[][] runs = {
            {6, 0, 1, 1, 0}, {-1, 6, 1, 1, 0}, {0, 16, 1, 1, 0}, {0, -1, 1, 1, 0},
            {0, 0, 11, 1, 0}, {0, 6, -1, 1, 0}, {0, 0, 1, 1001, 0}, {0, 6, 1, -1, 0},
            {0, 0, 1, 1, -1}, {0, 6, 1, 1, 10001}, {0, 6, 1, 1, -1},
        };
        for (int[] run : runs) {
            checks.refused("register of a wrong argument in a wrong state", ARGUMENT, full,
                    forker -> forker.register(run[0], run[1], run[2], run[3], run[4]));
        }
        checks.refused("register of a right one in a wrong state", STATE, full,
                forker -> forker.register(0, 6, 1, 1, 0));
    }

    private void ofSeveralExceptionsTheOthersThrowTheFirst() {
        int[] wrongs = {-1, 6};
        for (int wrong : wrongs) {
            checks.refused("binding, both wrong", ARGUMENT, RangesTest::used,
                    forker -> forker.binding(wrong, wrong));
            checks.refused("call, both wrong", ARGUMENT, RangesTest::withTwentyCalls,
                    forker -> forker.call(wrong));
        }
        answerWrong("call and device", INDEX, 3, 10, 200);
        answerWrong("call and code", INDEX, -1, 0, 199);
        answerWrong("call, device and code", INDEX, 3, -1, 700);
        answerWrong("device, of no branch", ARGUMENT, 2, 10, 200);
        answerWrong("code, of no branch", ARGUMENT, 0, 9, 199);
        answerWrong("code, not started", ARGUMENT, 0, 2, 181);
        answerWrong("code, of one that ended", ARGUMENT, 1, 0, 700);
        checks.refused("the 21st call", STATE, RangesTest::withTwentyCalls, forker -> forker.call(0));
        checks.refused("finalBySorting of an open call", STATE, RangesTest::used,
                forker -> forker.finalBySorting(0));
    }

    private void answerWrong(String what, Class<? extends RuntimeException> due, int call, int device, int code) {
        checks.refused("answer, wrong: " + what, due, RangesTest::used,
                forker -> forker.answer(call, device, code));
    }
}
