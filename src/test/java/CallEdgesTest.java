import java.util.function.Supplier;

/** Each sentence of the document that names an edge of how calls find and start branches, by a test of its own. */
public final class CallEdgesTest {
    private static final Class<IllegalStateException> STATE = IllegalStateException.class;
    private static final Class<IndexOutOfBoundsException> INDEX = IndexOutOfBoundsException.class;

    private final Checks checks = new Checks("CallEdgesTest");

    private CallEdgesTest() {
    }

    public static void main(String[] arguments) {
        CallEdgesTest test = new CallEdgesTest();
        test.numbersAreFromZeroAndTwentyAtMost();
        test.aCallWithoutBranchesEndsAtOnceWith480();
        test.onlyBindingsThatAreThereMakeBranches();
        test.branchesAreFoundWhenTheCallBegins();
        test.aDeviceMakesABranchUnlessThereIsOne();
        test.aDeviceFoundFirstByAUserKeepsThatQuality();
        test.qualityIsThatOfTheFirstBindingOfTheWay();
        test.oneselfEndsWith482();
        test.aUserOnTheWayEndsWith482();
        test.aUserOnAnotherWayDoesNotEndWith482();
        test.twoUsersBehindAreNotTooMany();
        test.theThirdUserBehindEndsWith483();
        test.theThirdUserBehindEndsWith482IfOnTheWay();
        test.twelveBranchesAreNotTooMany();
        test.theTwelfthBranchIsLikeTheOthers();
        test.aThirteenthDeviceIsLeftOut();
        test.aThirteenthThatEndsAtOnceIsLeftOut();
        test.whatIsLeftOutHoldsNoGroupUp();
        test.theGreatestQualityIsStartedFirst();
        test.theNextGroupStartsWhenAllHaveEnded();
        test.aGroupThatHasEndedIsPassedOver();
        test.theCallEndsIfTheLastGroupHasEndedBefore();
        test.aCallWhoseBranchesAllEndAtOnceEnds();
        test.checks.end();
    }

    /** A forker whose user 0 has eleven branches when called: further bindings make the further ones. */
    private static CallForker withElevenBranches() {
        CallForker forker = new CallForker();
        Forkers.bind(forker, 0, 5, 0, 1, 2, 11, 12);
        Forkers.bind(forker, 1, 1, 3, 4, 5, 6, 10, 11);
        Forkers.bind(forker, 2, 1, 7, 10);
        return forker;
    }

    /** "Returns its number, from 0." and "if there were 20 calls". */
    private void numbersAreFromZeroAndTwentyAtMost() {
        Supplier<CallForker> full = () -> {
            CallForker forker = Forkers.withDevices(5);
            for (int call = 0; call < 20; call++) {
                forker.call(1);
            }
            return forker;
        };
        CallForker forker = Forkers.withDevices(5);
        for (int call = 0; call < 20; call++) {
            checks.same("calls before", forker.calls(), call);
            checks.same("the number", forker.call(call % 2), call);
        }
        checks.same("the last one is a call", forker.answer(18, 0, 200), 200);
        checks.fails("the 21st", STATE, () -> forker.call(0));
        forker.pass(100);
        checks.fails("the 21st, when all have ended", STATE, () -> forker.call(0));
        checks.same("calls", forker.calls(), 20);
        checks.refused("the 21st, of somebody", STATE, full, one -> one.call(0));
        checks.refused("the 21st, of nobody", STATE, full, one -> one.call(1));
    }

    /** "A call without branches ends at once with 480." */
    private void aCallWithoutBranchesEndsAtOnceWith480() {
        CallForker forker = new CallForker();
        forker.call(0);
        checks.same("branches", forker.branches(0), 0);
        checks.finals("without bindings", forker, 0, 480);
        checks.same("answered", forker.answered(0), -1);
        checks.fails("cancel", STATE, () -> forker.cancel(0));
        checks.fails("answer", STATE, () -> forker.answer(0, 0, 200));
        checks.fails("device", INDEX, () -> forker.device(0, 0));
        checks.same("ended before any tick", forker.pass(100), 0);
        forker.register(0, 11, 5, 9, 0);
        forker.register(0, 12, 5, 9, 0);
        forker.register(2, 13, 5, 9, 0);
        forker.call(0);
        checks.same("branches by users without devices", forker.branches(1), 0);
        checks.finals("by users without devices", forker, 1, 480);
    }

    /** "the user's bindings that are there are gone through". */
    private void onlyBindingsThatAreThereMakeBranches() {
        CallForker forker = new CallForker();
        forker.register(0, 0, 5, 3, 0);
        forker.register(0, 11, 5, 4, 0);
        forker.register(0, 1, 5, 9, 0);
        forker.register(1, 2, 5, 3, 0);
        forker.register(1, 3, 5, 9, 0);
        forker.pass(2);
        forker.call(0);
        checks.devices("a tick before", forker, 0, "0 2 3 1");
        forker.pass(1);
        forker.call(0);
        checks.devices("without expired devices", forker, 1, "3 1");
        forker.pass(1);
        forker.call(0);
        checks.devices("without an expired user", forker, 2, "1");
        forker.register(0, 1, 5, 0, 1);
        forker.call(0);
        checks.devices("without one taken away", forker, 3, "");
    }

    /** "Its branches are found when it begins". */
    private void branchesAreFoundWhenTheCallBegins() {
        CallForker forker = new CallForker();
        forker.register(0, 0, 5, 3, 0);
        forker.register(0, 1, 4, 3, 0);
        forker.call(0);
        forker.register(0, 2, 5, 9, 0);
        forker.register(0, 1, 10, 0, 1);
        forker.register(0, 0, 1, 9, 1);
        forker.pass(9);
        checks.devices("found", forker, 0, "0 1");
        checks.states("before the ring time is over", forker, 0, "100 0");
        forker.pass(1);
        checks.states("of one that is taken away since", forker, 0, "408 100");
        checks.same("it answers", forker.answer(0, 1, 200), 200);
    }

    /** "a device makes a branch with the quality of the binding, unless there is one for that device already". */
    private void aDeviceMakesABranchUnlessThereIsOne() {
        CallForker forker = new CallForker();
        forker.register(0, 0, 3, 9, 0);
        forker.register(0, 11, 7, 9, 0);
        forker.register(0, 12, 7, 9, 0);
        Forkers.bind(forker, 1, 1, 0, 9);
        Forkers.bind(forker, 2, 1, 9, 0, 8);
        forker.call(0);
        checks.devices("each once", forker, 0, "0 9 8");
        checks.states("with the quality found first", forker, 0, "0 100 100");
        forker.answer(0, 9, 500);
        forker.answer(0, 8, 500);
        checks.states("the first one's group", forker, 0, "100 500 500");
    }

    private void aDeviceFoundFirstByAUserKeepsThatQuality() {
        CallForker forker = new CallForker();
        forker.register(0, 11, 2, 9, 0);
        forker.register(0, 4, 9, 9, 0);
        forker.register(0, 5, 6, 9, 0);
        forker.register(1, 4, 10, 9, 0);
        forker.call(0);
        checks.devices("by a user first", forker, 0, "4 5");
        checks.states("by a user first", forker, 0, "0 100");
    }

    /** "with the quality of the binding by which one came from the user that is called". */
    private void qualityIsThatOfTheFirstBindingOfTheWay() {
        CallForker forker = new CallForker();
        forker.register(0, 11, 4, 9, 0);
        forker.register(0, 0, 5, 9, 0);
        forker.register(0, 13, 6, 9, 0);
        forker.register(1, 1, 10, 9, 0);
        forker.register(1, 12, 9, 9, 0);
        forker.register(2, 2, 8, 9, 0);
        forker.register(1, 3, 0, 9, 0);
        forker.register(3, 4, 0, 9, 0);
        forker.call(0);
        checks.devices("by two users", forker, 0, "1 2 3 0 4");
        checks.states("the greatest first binding", forker, 0, "0 0 0 0 100");
        forker.answer(0, 4, 500);
        checks.states("then the called one's own", forker, 0, "0 0 0 100 500");
        forker.answer(0, 0, 500);
        checks.states("then all by the least first binding", forker, 0, "100 100 100 500 500");
    }

    /** "the called one included": a user that forwards to itself. */
    private void oneselfEndsWith482() {
        for (int user = 0; user <= 5; user++) {
            CallForker forker = new CallForker();
            forker.register(user, 10 + user, 0, 9, 0);
            forker.call(user);
            checks.devices("to oneself", forker, 0, "-1");
            checks.states("to oneself", forker, 0, "482");
            checks.finals("to oneself", forker, 0, 482);
        }
    }

    /** "a user by whom one has come already, on the way there". */
    private void aUserOnTheWayEndsWith482() {
        CallForker forker = new CallForker();
        Forkers.bind(forker, 0, 5, 11);
        Forkers.bind(forker, 1, 5, 10, 11, 12, 0);
        Forkers.bind(forker, 2, 5, 1);
        forker.call(0);
        checks.devices("the called one, and the one behind itself", forker, 0, "-1 -1 1 0");
        checks.states("the called one, and the one behind itself", forker, 0, "482 482 100 100");
        forker.call(1);
        checks.devices("the called one by the one behind", forker, 1, "-1 -1 1 0");
        checks.states("the called one by the one behind", forker, 1, "482 482 100 100");
    }

    /** "on the way there": a user by whom one has come on another way is followed again. */
    private void aUserOnAnotherWayDoesNotEndWith482() {
        CallForker forker = new CallForker();
        Forkers.bind(forker, 0, 5, 11, 12, 13);
        Forkers.bind(forker, 1, 5, 13);
        Forkers.bind(forker, 2, 5, 11, 0);
        Forkers.bind(forker, 3, 5, 1);
        forker.call(0);
        checks.devices("by three ways", forker, 0, "1 -1 0");
        checks.states("too far by one of them, round by none", forker, 0, "100 483 100");
        Forkers.bind(forker, 3, 5, 12);
        forker.call(0);
        checks.devices("by three ways, further", forker, 1, "1 -1 -1 0 -1");
        checks.states("by three ways, further", forker, 1, "100 483 483 100 483");
    }

    /** "more than 2 users behind the called one on the way": two are not more. */
    private void twoUsersBehindAreNotTooMany() {
        CallForker forker = new CallForker();
        Forkers.bind(forker, 0, 5, 11);
        Forkers.bind(forker, 1, 5, 12);
        Forkers.bind(forker, 2, 5, 0, 1);
        forker.call(0);
        checks.devices("by two users", forker, 0, "0 1");
        checks.states("by two users", forker, 0, "100 100");
    }

    /** "the third one makes a branch that ends at once with 483", and "has no device". */
    private void theThirdUserBehindEndsWith483() {
        CallForker forker = new CallForker();
        Forkers.bind(forker, 0, 5, 11);
        Forkers.bind(forker, 1, 5, 12);
        Forkers.bind(forker, 2, 5, 13, 0, 15);
        Forkers.bind(forker, 3, 5, 1, 14);
        forker.call(0);
        checks.devices("one with and one without bindings", forker, 0, "-1 0 -1");
        checks.states("one with and one without bindings", forker, 0, "483 100 483");
        forker.register(2, 10, 5, 0, 1);
        forker.register(2, 0, 5, 0, 1);
        forker.call(0);
        checks.finals("of nothing else", forker, 1, 483);
        forker.call(1);
        checks.devices("for the one behind", forker, 2, "1 -1");
        checks.states("for the one behind", forker, 2, "100 483");
    }

    /** "(482, if one has come by it already)". */
    private void theThirdUserBehindEndsWith482IfOnTheWay() {
        CallForker forker = new CallForker();
        Forkers.bind(forker, 0, 5, 11);
        Forkers.bind(forker, 1, 5, 12);
        Forkers.bind(forker, 2, 5, 10, 11, 12, 13);
        forker.call(0);
        checks.devices("the called one, both behind, another", forker, 0, "-1 -1 -1 -1");
        checks.states("the called one, both behind, another", forker, 0, "482 482 482 483");
        checks.finals("the least of both", forker, 0, 482);
    }

    /** "at most 12". */
    private void twelveBranchesAreNotTooMany() {
        CallForker forker = withElevenBranches();
        forker.call(0);
        checks.devices("eleven", forker, 0, "0 1 2 3 4 5 6 -1 -1 7 -1");
        Forkers.bind(forker, 0, 5, 9);
        forker.call(0);
        checks.devices("twelve", forker, 1, "0 1 2 3 4 5 6 -1 -1 7 -1 9");
        checks.states("twelve", forker, 1, "100 100 100 100 100 100 100 482 482 100 482 100");
        checks.fails("a thirteenth", INDEX, () -> forker.device(1, 12));
        checks.fails("its state", INDEX, () -> forker.state(1, 12));
        checks.same("the twelfth answers", forker.answer(1, 9, 200), 200);
        checks.same("the twelfth is answered", forker.answered(1), 11);
        checks.states("answered by the twelfth", forker, 1, "487 487 487 487 487 487 487 482 482 487 482 200");
        checks.finals("answered by the twelfth", forker, 1, 200);
        checks.same("the twelfth too much", forker.cancel(0) + forker.answer(0, 7, 200), 8 + 487);
    }

    private void theTwelfthBranchIsLikeTheOthers() {
        CallForker forker = withElevenBranches();
        Forkers.bind(forker, 0, 5, 9);
        forker.call(0);
        checks.same("all twelve end by time", forker.pass(10), 1);
        checks.states("ended by time", forker, 0, "408 408 408 408 408 408 408 482 482 408 482 408");
        checks.finals("ended by time", forker, 0, 408);
        checks.same("the twelfth too much", forker.answer(0, 9, 200), 408);
        checks.fails("the twelfth too much again", STATE, () -> forker.answer(0, 9, 200));
        checks.same("hung up", forker.hungUp(9), 1);
        for (int end : new int[] {300, 600}) {
            int call = forker.call(0);
            for (int device = 0; device < 8; device++) {
                forker.answer(call, device, 500);
            }
            checks.same("the twelfth refuses with " + end, forker.answer(call, 9, end), end);
            checks.finals("the twelfth refused with " + end, forker, call, end);
        }
    }

    /** "further ones are left out". */
    private void aThirteenthDeviceIsLeftOut() {
        CallForker forker = withElevenBranches();
        Forkers.bind(forker, 2, 1, 8, 9);
        forker.call(0);
        checks.devices("twelve of thirteen", forker, 0, "0 1 2 3 4 5 6 -1 -1 7 -1 8");
        checks.same("branches", forker.branches(0), 12);
        checks.fails("the thirteenth answers", STATE, () -> forker.answer(0, 9, 200));
        checks.same("the twelfth answers", forker.answer(0, 8, 200), 200);
    }

    private void aThirteenthThatEndsAtOnceIsLeftOut() {
        CallForker forker = withElevenBranches();
        Forkers.bind(forker, 2, 1, 8, 12);
        forker.call(0);
        checks.devices("twelve of thirteen", forker, 0, "0 1 2 3 4 5 6 -1 -1 7 -1 8");
        checks.same("branches", forker.branches(0), 12);
        checks.fails("the state of the thirteenth", INDEX, () -> forker.state(0, 12));
    }

    /** What is left out is no branch: its device can't answer, and its quality is no group. */
    private void whatIsLeftOutHoldsNoGroupUp() {
        CallForker forker = withElevenBranches();
        Forkers.bind(forker, 2, 1, 8);
        Forkers.bind(forker, 0, 10, 9);
        forker.call(0);
        checks.states("the greatest quality is left out", forker, 0,
                "100 100 100 100 100 100 100 482 482 100 482 100");
        checks.fails("the one left out", STATE, () -> forker.answer(0, 9, 200));
        checks.same("cancel", forker.cancel(0), 9);
        checks.same("none answered", forker.answered(0), -1);
    }

    /** "When the call begins, the group with the greatest quality is started". */
    private void theGreatestQualityIsStartedFirst() {
        CallForker forker = Forkers.called(0, 9, 10, 9, 10, 0);
        checks.states("the greatest", forker, 0, "0 0 100 0 100 0");
        checks.same("its last branch waits", forker.answer(0, 2, 404), -1);
        checks.states("one has ended", forker, 0, "0 0 404 0 100 0");
        forker.answer(0, 4, 404);
        checks.states("the next lower", forker, 0, "0 100 404 100 404 0");
        forker.answer(0, 1, 404);
        forker.answer(0, 3, 404);
        checks.states("the least, 0", forker, 0, "100 404 404 404 404 100");
        forker.answer(0, 0, 404);
        checks.same("the call ends with the last branch", forker.answer(0, 5, 404), 404);
        CallForker zero = Forkers.called(0, 0);
        checks.states("of quality 0 alone", zero, 0, "100 100");
    }

    /** "When all branches of the groups started have ended, the group with the next lower quality is started". */
    private void theNextGroupStartsWhenAllHaveEnded() {
        CallForker forker = Forkers.called(8, 8, 3, 8);
        forker.answer(0, 0, 487);
        forker.answer(0, 1, 180);
        forker.answer(0, 3, 408);
        checks.states("one rings", forker, 0, "487 180 0 408");
        checks.fails("not started", STATE, () -> forker.answer(0, 2, 180));
        forker.answer(0, 1, 599);
        checks.states("none rings", forker, 0, "487 599 100 408");
        checks.same("started", forker.answer(0, 2, 180), -1);
    }

    /** A group all of whose branches ended at once is started too, and leads to the next one. */
    private void aGroupThatHasEndedIsPassedOver() {
        CallForker forker = new CallForker();
        Forkers.bind(forker, 0, 9, 10);
        Forkers.bind(forker, 0, 8, 11);
        Forkers.bind(forker, 0, 5, 0);
        Forkers.bind(forker, 0, 4, 12);
        Forkers.bind(forker, 0, 0, 1);
        Forkers.bind(forker, 1, 5, 10);
        Forkers.bind(forker, 2, 5, 10);
        forker.call(0);
        checks.states("past two at the beginning", forker, 0, "482 482 100 482 0");
        checks.same("open", forker.finalOf(0), -1);
        forker.call(0);
        forker.answer(0, 0, 404);
        checks.states("past one in the middle, by an answer", forker, 0, "482 482 404 482 100");
        checks.same("past one in the middle, by time", forker.pass(10), 1);
        checks.states("past one in the middle, by time", forker, 1, "482 482 408 482 100");
        checks.finals("ended by time", forker, 0, 404);
        checks.same("its own ring time", forker.pass(9), 0);
        checks.same("at its end", forker.pass(1), 1);
        checks.finals("ended by time after that", forker, 1, 408);
    }

    /** "if there is one; otherwise the call ends". */
    private void theCallEndsIfTheLastGroupHasEndedBefore() {
        CallForker forker = new CallForker();
        Forkers.bind(forker, 0, 9, 0);
        Forkers.bind(forker, 0, 1, 10);
        forker.call(0);
        forker.call(0);
        checks.states("the last group has ended", forker, 0, "100 482");
        checks.same("by an answer", forker.answer(0, 0, 404), 404);
        checks.finals("by an answer", forker, 0, 404);
        checks.same("by time", forker.pass(10), 1);
        checks.finals("by time", forker, 1, 408);
        forker.call(0);
        checks.same("482 is the least", forker.answer(2, 0, 500), 482);
    }

    private void aCallWhoseBranchesAllEndAtOnceEnds() {
        CallForker forker = new CallForker();
        Forkers.bind(forker, 0, 9, 10, 11);
        Forkers.bind(forker, 0, 3, 12);
        Forkers.bind(forker, 1, 9, 10);
        Forkers.bind(forker, 2, 9, 13);
        Forkers.bind(forker, 3, 9, 14);
        forker.call(0);
        checks.states("of two groups", forker, 0, "482 482 483");
        checks.finals("of two groups", forker, 0, 482);
        checks.fails("cancel", STATE, () -> forker.cancel(0));
        checks.same("ended before any tick", forker.pass(100), 0);
    }
}
