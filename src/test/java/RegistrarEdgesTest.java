/** Each sentence of the document that names an edge of bindings, by a test of its own (promises 1 to 4). */
public final class RegistrarEdgesTest {
    private static final Class<IllegalStateException> STATE = IllegalStateException.class;
    private static final Class<IndexOutOfBoundsException> INDEX = IndexOutOfBoundsException.class;

    private final Checks checks = new Checks("RegistrarEdgesTest");

    private RegistrarEdgesTest() {
    }

    public static void main(String[] arguments) {
        RegistrarEdgesTest test = new RegistrarEdgesTest();
        test.beginsAtTheTickZeroWithoutBindingsAndCalls();
        test.registeringMakesTheBindingAnewInItsPlace();
        test.theSequenceMustBeGreater();
        test.theSequenceIsThatOfTheTargetAndTheUser();
        test.theSequenceCountsWhetherTheBindingIsThereOrNot();
        test.theSequenceOfWhatThrewDoesNotCount();
        test.zeroTicksTakeTheBindingAway();
        test.zeroTicksTakeNothingAwayIfNothingIsThere();
        test.zeroTicksAreRegisteredThoughSixOthersAreThere();
        test.isThereBeforeTheTimeAtWhichItExpires();
        test.expiresFromTheTimeOfItsLatestRegistration();
        test.atMostSixAreThere();
        test.sixOthersMeansOthers();
        test.sixAreCountedOfThoseThatAreThere();
        test.orderedAsFirstRegistered();
        test.orderedAsFirstRegisteredForZeroTicks();
        test.orderedThroughAllTargets();
        test.bindingsTellsHowManyAreThere();
        test.bindingTellsTargetAndQuality();
        test.bindingThrowsIfThereAreNotSoMany();
        test.checks.end();
    }

    private static CallForker full() {
        return Forkers.withDevices(1, 2, 3, 4, 5, 6);
    }

    /** "Begins at the tick 0 without bindings and calls." */
    private void beginsAtTheTickZeroWithoutBindingsAndCalls() {
        CallForker forker = new CallForker();
        String empty = Forkers.all(forker);
        checks.same("time", forker.time(), 0);
        checks.same("calls", forker.calls(), 0);
        for (int user = 0; user <= 5; user++) {
            checks.same("bindings", forker.bindings(user), 0);
        }
        for (int device = 0; device <= 9; device++) {
            checks.same("hung up", forker.hungUp(device), 0);
        }
        CallForker other = full();
        other.pass(1);
        other.call(0);
        other.answer(0, 5, 408);
        other.answer(0, 5, 200);
        checks.same("beside another one that is used", Forkers.all(forker), empty);
        checks.same("made after another one was used", Forkers.all(new CallForker()), empty);
    }

    /** "Registering a target makes its binding, or makes it anew in its place". */
    private void registeringMakesTheBindingAnewInItsPlace() {
        CallForker forker = Forkers.withDevices(1, 2, 3);
        checks.same("anew, the first", forker.register(0, 0, 10, 9, 1), 3);
        checks.same("anew, in the middle", forker.register(0, 1, 0, 9, 1), 3);
        checks.same("anew, the last", forker.register(0, 2, 9, 9, 1), 3);
        checks.row("made anew", forker, 0, "10 100 209");
    }

    /** "the sequence number must be greater than that of the latest registration". */
    private void theSequenceMustBeGreater() {
        CallForker forker = new CallForker();
        checks.same("the least number at first", forker.register(0, 3, 1, 9, 0), 1);
        checks.fails("the same", STATE, () -> forker.register(0, 3, 2, 9, 0));
        checks.same("greater by one", forker.register(0, 3, 2, 9, 1), 1);
        checks.same("greater by many", forker.register(0, 3, 3, 9, 9998), 1);
        checks.fails("the same again", STATE, () -> forker.register(0, 3, 4, 9, 9998));
        checks.fails("less by one", STATE, () -> forker.register(0, 3, 4, 9, 9997));
        checks.fails("less by many", STATE, () -> forker.register(0, 3, 4, 9, 0));
        checks.fails("less than the one before", STATE, () -> forker.register(0, 3, 4, 0, 1));
        checks.row("are as they were", forker, 0, "303");
        checks.same("almost the greatest", forker.register(0, 3, 4, 9, 9999), 1);
        checks.same("the greatest number", forker.register(0, 3, 5, 9, 10000), 1);
        checks.fails("no number is left", STATE, () -> forker.register(0, 3, 6, 9, 10000));
        checks.fails("nor one to take it away", STATE, () -> forker.register(0, 3, 6, 0, 10000));
        checks.fails("nor from 0 on again", STATE, () -> forker.register(0, 3, 6, 9, 0));
        checks.row("of the greatest number", forker, 0, "305");
    }

    /** "of that target for that user". */
    private void theSequenceIsThatOfTheTargetAndTheUser() {
        CallForker forker = new CallForker();
        forker.register(0, 3, 1, 9, 10000);
        checks.same("another target", forker.register(0, 4, 1, 9, 0), 2);
        checks.same("a user is another target", forker.register(0, 13, 1, 9, 0), 3);
        checks.same("another user", forker.register(1, 3, 1, 9, 0), 1);
        checks.fails("the same for the user", STATE, () -> forker.register(1, 3, 1, 9, 0));
        checks.fails("the same for the target", STATE, () -> forker.register(0, 4, 1, 9, 0));
        checks.fails("the same for the user as target", STATE, () -> forker.register(0, 13, 1, 9, 0));
        CallForker all = new CallForker();
        for (int target = 0; target <= 15; target++) {
            checks.same("each target's own", all.register(0, target, 1, 1, 15 - target), 1);
            all.pass(1);
        }
        for (int target = 0; target <= 15; target++) {
            int one = target;
            checks.fails("each target's own", STATE, () -> all.register(0, one, 1, 1, 15 - one));
            checks.same("each target's next", all.register(0, one, 1, 1, 16 - one), 1);
            all.pass(1);
        }
    }

    /** "whether that binding is there still or not". */
    private void theSequenceCountsWhetherTheBindingIsThereOrNot() {
        CallForker forker = new CallForker();
        forker.register(0, 3, 1, 5, 7);
        forker.pass(4);
        checks.fails("there for the last tick", STATE, () -> forker.register(0, 3, 1, 5, 7));
        forker.pass(1);
        checks.fails("just expired", STATE, () -> forker.register(0, 3, 1, 5, 7));
        forker.pass(100);
        checks.fails("expired long ago", STATE, () -> forker.register(0, 3, 1, 5, 7));
        checks.fails("expired long ago, less", STATE, () -> forker.register(0, 3, 1, 5, 0));
        checks.same("expired, greater", forker.register(0, 3, 1, 5, 8), 1);
        checks.same("taken away", forker.register(0, 3, 1, 0, 9), 0);
        checks.fails("taken away, less", STATE, () -> forker.register(0, 3, 1, 5, 8));
        checks.fails("taken away, the same", STATE, () -> forker.register(0, 3, 1, 5, 9));
        checks.fails("taken away, to take away", STATE, () -> forker.register(0, 3, 1, 0, 9));
        checks.same("taken away, greater", forker.register(0, 3, 1, 5, 10), 1);
    }

    /** "When a call throws, nothing has changed". */
    private void theSequenceOfWhatThrewDoesNotCount() {
        CallForker forker = full();
        checks.fails("six others", STATE, () -> forker.register(0, 9, 1, 5, 5));
        forker.register(0, 0, 1, 0, 1);
        checks.same("the same number then", forker.register(0, 9, 1, 5, 5), 6);
        checks.row("behind those that were first", forker, 0, "102 203 304 405 506 901");
        checks.fails("one that was there", STATE, () -> forker.register(0, 0, 1, 5, 9));
        checks.fails("another quality", IllegalArgumentException.class, () -> forker.register(0, 1, 11, 5, 9));
        forker.register(0, 9, 1, 0, 6);
        checks.same("its same number then", forker.register(0, 0, 1, 5, 9), 6);
        checks.same("the other's same number then", forker.register(0, 1, 1, 5, 9), 6);
    }

    /** "Registering for 0 ticks takes the binding away." */
    private void zeroTicksTakeTheBindingAway() {
        CallForker forker = Forkers.withDevices(1, 2, 3);
        checks.same("in the middle", forker.register(0, 1, 2, 0, 1), 2);
        checks.row("without the one in the middle", forker, 0, "1 203");
        checks.same("the first", forker.register(0, 0, 1, 0, 1), 1);
        checks.row("without the first", forker, 0, "203");
        checks.same("the last", forker.register(0, 2, 3, 0, 1), 0);
        checks.row("without any", forker, 0, "");
        checks.same("taken away for good", forker.pass(1) + forker.bindings(0), 0);
        checks.same("a call then", forker.call(0), 0);
        checks.finals("of a call then", forker, 0, 480);
    }

    private void zeroTicksTakeNothingAwayIfNothingIsThere() {
        CallForker forker = Forkers.withDevices(1, 2);
        checks.same("never there", forker.register(0, 5, 3, 0, 0), 2);
        checks.same("taken away before", forker.register(0, 5, 3, 0, 1), 2);
        checks.same("expired before", forker.register(0, 5, 3, 1, 2) + forker.pass(1), 3);
        checks.same("expired before, for 0 ticks", forker.register(0, 5, 3, 0, 3), 2);
        checks.row("of the others", forker, 0, "1 102");
    }

    /** "or 6 others are there and ticks is not 0": for 0 ticks nothing is too many. */
    private void zeroTicksAreRegisteredThoughSixOthersAreThere() {
        CallForker forker = full();
        checks.same("for 0 ticks", forker.register(0, 9, 1, 0, 5), 6);
        checks.fails("its sequence counts", STATE, () -> forker.register(0, 9, 1, 0, 5));
        checks.same("for 0 ticks again", forker.register(0, 9, 1, 0, 6), 6);
        checks.fails("for one tick", STATE, () -> forker.register(0, 9, 1, 1, 7));
        checks.fails("for 1000 ticks", STATE, () -> forker.register(0, 9, 1, 1000, 7));
        checks.row("of the six", forker, 0, "1 102 203 304 405 506");
    }

    /** "A binding is there while the time is before that at which it expires." */
    private void isThereBeforeTheTimeAtWhichItExpires() {
        CallForker forker = new CallForker();
        forker.pass(50);
        forker.register(0, 3, 4, 1, 0);
        checks.same("for one tick, at its time", forker.bindings(0), 1);
        forker.pass(1);
        checks.same("for one tick, a tick later", forker.bindings(0), 0);
        forker.register(0, 3, 4, 1000, 1);
        for (int pass = 0; pass < 9; pass++) {
            forker.pass(100);
        }
        forker.pass(99);
        checks.row("for 1000 ticks, after 999", forker, 0, "304");
        checks.same("a call after 999", forker.call(0), 0);
        checks.devices("after 999", forker, 0, "3");
        forker.pass(1);
        checks.row("for 1000 ticks, after 1000", forker, 0, "");
        checks.same("a call after 1000", forker.call(0), 1);
        checks.devices("after 1000", forker, 1, "");
        checks.fails("its place after 1000", INDEX, () -> forker.binding(0, 0));
        forker.pass(100);
        checks.row("does not come back", forker, 0, "");
    }

    private void expiresFromTheTimeOfItsLatestRegistration() {
        CallForker forker = new CallForker();
        forker.register(0, 3, 4, 10, 0);
        forker.pass(9);
        forker.register(0, 3, 4, 5, 1);
        forker.pass(4);
        checks.same("longer than at first", forker.bindings(0), 1);
        forker.pass(1);
        checks.same("as long as registered last", forker.bindings(0), 0);
        forker.register(0, 3, 4, 100, 2);
        forker.register(0, 3, 4, 2, 3);
        forker.pass(2);
        checks.same("shorter than at first", forker.bindings(0), 0);
        checks.same("at the tick at which it expires", forker.register(0, 3, 4, 1, 4), 1);
    }

    /** "A user has at most 6 that are there". */
    private void atMostSixAreThere() {
        CallForker forker = new CallForker();
        int[] targets = {15, 0, 9, 10, 4, 12};
        for (int place = 0; place < 6; place++) {
            checks.same("the first six", forker.register(2, targets[place], 1, 9, 0), place + 1);
        }
        checks.fails("a seventh, a device", STATE, () -> forker.register(2, 1, 1, 9, 9));
        checks.fails("a seventh, a user", STATE, () -> forker.register(2, 11, 1, 9, 9));
        checks.row("of the six", forker, 2, "1501 1 901 1001 401 1201");
        checks.same("another user's first", forker.register(3, 1, 1, 9, 0), 1);
        checks.refused("a seventh", STATE, RegistrarEdgesTest::full, one -> one.register(0, 6, 1, 1, 0));
    }

    /** "6 others are there": one of the six itself is none of the others. */
    private void sixOthersMeansOthers() {
        CallForker forker = full();
        for (int target = 0; target < 6; target++) {
            checks.same("one of six anew", forker.register(0, target, 7, 20, 1), 6);
        }
        checks.row("all six anew", forker, 0, "7 107 207 307 407 507");
        forker.register(0, 5, 7, 0, 2);
        checks.same("with five others, back", forker.register(0, 5, 7, 1, 3), 6);
        forker.pass(1);
        checks.same("with five others, expired", forker.register(0, 5, 7, 1, 4), 6);
    }

    private void sixAreCountedOfThoseThatAreThere() {
        CallForker forker = Forkers.withDevices(1, 1, 1, 1, 1);
        forker.register(0, 5, 1, 3, 0);
        forker.pass(2);
        checks.fails("the sixth is there for a tick more", STATE, () -> forker.register(0, 6, 1, 9, 0));
        forker.pass(1);
        checks.same("the sixth has expired", forker.register(0, 6, 1, 9, 0), 6);
        checks.fails("it can't come back", STATE, () -> forker.register(0, 5, 1, 9, 1));
        checks.same("the seventh taken away", forker.register(0, 6, 1, 0, 1), 5);
        checks.same("it comes back", forker.register(0, 5, 1, 9, 1), 6);
        checks.fails("the seventh can't then", STATE, () -> forker.register(0, 6, 1, 9, 2));
    }

    /** "they are ordered as their targets were first registered for the user". */
    private void orderedAsFirstRegistered() {
        CallForker forker = new CallForker();
        forker.register(0, 8, 1, 5, 9);
        forker.register(1, 2, 1, 1000, 0);
        forker.register(0, 12, 2, 1000, 5);
        forker.register(0, 2, 3, 1000, 1);
        checks.row("not by target, sequence or quality", forker, 0, "801 1202 203");
        forker.pass(5);
        forker.register(0, 8, 4, 1000, 10);
        checks.row("after one expired", forker, 0, "804 1202 203");
        forker.register(0, 12, 2, 0, 6);
        forker.register(0, 0, 0, 1000, 0);
        forker.register(0, 12, 5, 1000, 7);
        checks.row("after one was taken away", forker, 0, "804 1205 203 0");
        forker.call(0);
        checks.devices("in that order", forker, 0, "8 2 0");
    }

    /** Registering for 0 ticks is registering: the document makes no difference for the order. */
    private void orderedAsFirstRegisteredForZeroTicks() {
        CallForker forker = new CallForker();
        forker.register(0, 7, 1, 0, 0);
        forker.register(0, 3, 1, 9, 0);
        forker.register(0, 7, 1, 9, 1);
        checks.row("first for 0 ticks", forker, 0, "701 301");
    }

    private void orderedThroughAllTargets() {
        CallForker forker = new CallForker();
        for (int target = 15; target >= 0; target--) {
            forker.register(0, target, 1, 1, 0);
            forker.pass(1);
        }
        for (int target : new int[] {0, 15, 9, 10, 1, 14}) {
            forker.register(0, target, 2, 9, 1);
        }
        checks.row("in the order of long ago", forker, 0, "1502 1402 1002 902 102 2");
        forker.call(0);
        checks.devices("in the order of long ago", forker, 0, "-1 9 1 0");
    }

    /** "Returns how many bindings of a user are there." */
    private void bindingsTellsHowManyAreThere() {
        CallForker forker = full();
        checks.same("none", forker.bindings(1), 0);
        checks.same("six", forker.bindings(0), 6);
        forker.register(1, 0, 0, 1, 0);
        checks.same("one, of target and quality 0", forker.bindings(1), 1);
        forker.pass(1);
        checks.same("none again", forker.bindings(1), 0);
    }

    /** "Returns a binding that is there: 100 times the target, plus the quality." */
    private void bindingTellsTargetAndQuality() {
        CallForker forker = new CallForker();
        forker.register(0, 0, 0, 9, 0);
        forker.register(0, 15, 10, 9, 0);
        forker.register(0, 9, 10, 1, 0);
        forker.register(0, 10, 0, 9, 0);
        checks.row("the least and the greatest", forker, 0, "0 1510 910 1000");
        forker.pass(1);
        checks.row("places of those that are there", forker, 0, "0 1510 1000");
    }

    /** "if there are not so many". */
    private void bindingThrowsIfThereAreNotSoMany() {
        CallForker forker = full();
        checks.fails("the first of none", INDEX, () -> forker.binding(1, 0));
        checks.same("the sixth of six", forker.binding(0, 5), 506);
        checks.fails("the seventh of six", INDEX, () -> forker.binding(0, 6));
        forker.register(0, 2, 1, 0, 1);
        checks.same("the fifth of five", forker.binding(0, 4), 506);
        checks.fails("the sixth of five", INDEX, () -> forker.binding(0, 5));
        checks.fails("one before the first", INDEX, () -> forker.binding(0, -1));
    }
}
