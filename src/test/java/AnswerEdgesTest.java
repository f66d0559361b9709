/** Each sentence of the document that names an edge of answers, cancels, time and ends, by a test of its own. */
public final class AnswerEdgesTest {
    private static final Class<IllegalStateException> STATE = IllegalStateException.class;

    private final Checks checks = new Checks("AnswerEdgesTest");

    private AnswerEdgesTest() {
    }

    public static void main(String[] arguments) {
        AnswerEdgesTest test = new AnswerEdgesTest();
        test.ringsForTenTicksSinceItsGroupWasStarted();
        test.ringingDoesNotPutTheEndOff();
        test.aGroupStartedByAnAnswerHasItsOwnRingTime();
        test.aGroupStartedByTimeHasItsOwnRingTime();
        test.timeGoesByTickByTick();
        test.timeGoesAsFarAs512CallsCanTakeIt();
        test.passTellsHowManyCallsEnd();
        test.allTwentyCallsEndAtOneTick();
        test.ringingMakesABranchRing();
        test.answersAreFrom200To299();
        test.refusalsAreFrom300To599();
        test.refusalsForAllAreFrom600To699();
        test.whenOneAnswersTheOthersEndWith487();
        test.whenOneRefusesForAllTheOthersEndWith487();
        test.whatADeviceTellsIsItsEndAlsoIf487Or408();
        test.cancelTellsHowManyBranchesEnd();
        test.cancelThrowsIfTheCallHasEnded();
        test.aCancelledCallEndsWith487();
        test.theLeastEndIsTheBest();
        test.endsOf487AreLeftOut();
        test.aRefusalForAllIsBetterThanTheLeast();
        test.anAnswerTooMuchIsFrom200To299();
        test.anAnswerTooMuchIsForAnEndOf487Or408();
        test.anAnswerTooMuchIsForAGroupThatWasStarted();
        test.anAnswerTooMuchIsHungUpOnceForEachBranch();
        test.anAnswerTooMuchChangesNothingElse();
        test.anAnswerTooMuchMayComeBeforeTheCallEnds();
        test.answerThrowsIfThereIsNoBranchForTheDevice();
        test.answerThrowsIfTheBranchHasEnded();
        test.whatAnswerRefusesChangesNothing();
        test.answeredIsTheBranch();
        test.hungUpCountsEachDevice();
        test.checks.end();
    }

    /** "for 10 ticks (the ring time) since its group was started ends with 408". */
    private void ringsForTenTicksSinceItsGroupWasStarted() {
        CallForker forker = Forkers.withDevices(5, 5, 5);
        forker.pass(7);
        forker.call(0);
        forker.answer(0, 1, 180);
        forker.answer(0, 2, 404);
        checks.same("nine ticks", forker.pass(9), 0);
        checks.states("after nine ticks", forker, 0, "100 180 404");
        checks.same("the tenth tick", forker.pass(1), 1);
        checks.states("after ten ticks", forker, 0, "408 408 404");
        checks.finals("after ten ticks", forker, 0, 404);
        CallForker late = Forkers.called(5);
        late.pass(9);
        checks.same("answered at the ninth", late.answer(0, 0, 200), 200);
        checks.same("the tenth after that", late.pass(1), 0);
        checks.finals("answered at the ninth", late, 0, 200);
    }

    private void ringingDoesNotPutTheEndOff() {
        CallForker forker = Forkers.called(5, 4);
        forker.pass(9);
        checks.same("rings at the ninth tick", forker.answer(0, 0, 180), -1);
        forker.pass(1);
        checks.states("at the tenth", forker, 0, "408 100");
    }

    private void aGroupStartedByAnAnswerHasItsOwnRingTime() {
        CallForker forker = Forkers.called(5, 4, 4);
        forker.pass(3);
        forker.answer(0, 0, 404);
        forker.pass(9);
        checks.states("after nine of its ticks", forker, 0, "404 100 100");
        checks.same("the tenth of its ticks", forker.pass(1), 1);
        checks.states("after ten of its ticks", forker, 0, "404 408 408");
    }

    private void aGroupStartedByTimeHasItsOwnRingTime() {
        CallForker forker = Forkers.called(5, 4, 3);
        forker.pass(19);
        checks.states("a tick before the third group", forker, 0, "408 100 0");
        forker.pass(1);
        checks.states("the third group", forker, 0, "408 408 100");
        checks.same("nine ticks", forker.pass(9), 0);
        checks.same("the tenth tick", forker.pass(1), 1);
    }

    /** "Lets time go by, tick by tick": a long way at once is the same as many short ones. */
    private void timeGoesByTickByTick() {
        CallForker once = Forkers.called(6, 5, 4, 3, 2, 1);
        CallForker often = Forkers.called(6, 5, 4, 3, 2, 1);
        checks.same("59 ticks at once", once.pass(59), 0);
        for (int tick = 0; tick < 59; tick++) {
            checks.same("each of 59 ticks", often.pass(1), 0);
        }
        checks.same("all after 59 ticks", Forkers.all(once), Forkers.all(often));
        checks.states("after 59 ticks", once, 0, "408 408 408 408 408 100");
        checks.same("the sixtieth", once.pass(1) + often.pass(1), 2);
        checks.same("all after 60 ticks", Forkers.all(once), Forkers.all(often));
        CallForker whole = Forkers.called(6, 5, 4, 3, 2, 1);
        checks.same("100 ticks at once", whole.pass(100), 1);
        checks.same("the time", whole.time(), 100);
    }

    private void timeGoesAsFarAs512CallsCanTakeIt() {
        CallForker forker = new CallForker();
        for (int pass = 0; pass < 500; pass++) {
            forker.pass(100);
        }
        checks.same("the time", forker.time(), 50000);
        checks.same("register then", forker.register(0, 0, 5, 10, 0), 1);
        checks.same("call then", forker.call(0), 0);
        checks.same("nine ticks then", forker.pass(9) + forker.bindings(0), 1);
        checks.same("the tenth tick then", forker.pass(1) + forker.bindings(0), 1);
        checks.finals("then", forker, 0, 408);
    }

    /** "Returns how many calls end.": by that, not before and not otherwise. */
    private void passTellsHowManyCallsEnd() {
        CallForker forker = Forkers.withDevices(5, 4);
        forker.register(1, 7, 5, 100, 0);
        checks.same("without calls", forker.pass(1), 0);
        forker.call(0);
        forker.call(1);
        forker.call(1);
        forker.call(2);
        forker.answer(2, 7, 200);
        checks.same("one of four, the others ended or with a group left", forker.pass(10), 1);
        checks.same("one more", forker.pass(10), 1);
        checks.same("none is left", forker.pass(100), 0);
    }

    private void allTwentyCallsEndAtOneTick() {
        CallForker forker = Forkers.withDevices(5, 5);
        for (int call = 0; call < 20; call++) {
            forker.call(0);
        }
        checks.same("none", forker.pass(9), 0);
        checks.same("all twenty", forker.pass(1), 20);
        checks.finals("of the first", forker, 0, 408);
        checks.finals("of the last", forker, 19, 408);
        checks.same("none again", forker.pass(1), 0);
    }

    /** "180 makes its branch ring". */
    private void ringingMakesABranchRing() {
        CallForker forker = Forkers.called(5, 5);
        checks.same("rings", forker.answer(0, 0, 180), -1);
        checks.same("rings again", forker.answer(0, 0, 180), -1);
        checks.states("one rings", forker, 0, "180 100");
        checks.same("it has not ended", forker.finalOf(0), -1);
        checks.same("answered", forker.answered(0), -1);
        checks.same("hung up", forker.hungUp(0), 0);
    }

    /** "200 to 299 answers it". */
    private void answersAreFrom200To299() {
        for (int code : new int[] {200, 201, 250, 298, 299}) {
            for (int first : new int[] {100, 180}) {
                CallForker forker = Forkers.called(5, 5);
                if (first == 180) {
                    forker.answer(0, 1, 180);
                }
                checks.same("answers with " + code, forker.answer(0, 1, code), code);
                checks.states("answered with " + code, forker, 0, "487 " + code);
                checks.finals("answered with " + code, forker, 0, code);
                checks.same("the branch answered with " + code, forker.answered(0), 1);
            }
        }
    }

    /** "300 to 699 refuses it": below 600 for itself alone. */
    private void refusalsAreFrom300To599() {
        for (int code : new int[] {300, 301, 407, 409, 480, 482, 483, 486, 488, 598, 599}) {
            CallForker forker = Forkers.called(5, 5, 4);
            checks.same("refuses with " + code, forker.answer(0, 1, code), -1);
            checks.states("refused with " + code, forker, 0, "100 " + code + " 0");
            checks.same("answered after " + code, forker.answered(0), -1);
            CallForker alone = Forkers.called(5);
            checks.same("the only one refuses with " + code, alone.answer(0, 0, code), code);
            checks.finals("the only one refuses with " + code, alone, 0, code);
        }
    }

    /** "When one refuses with 600 or more". */
    private void refusalsForAllAreFrom600To699() {
        for (int code : new int[] {600, 601, 650, 698, 699}) {
            CallForker forker = Forkers.called(5, 5, 4);
            forker.answer(0, 1, 180);
            checks.same("refuses for all with " + code, forker.answer(0, 1, code), code);
            checks.states("refused for all with " + code, forker, 0, "487 " + code + " 487");
            checks.finals("refused for all with " + code, forker, 0, code);
            checks.same("answered after " + code, forker.answered(0), -1);
        }
    }

    /** A call for user 0: 404 told, 482 at once, one tried, one that rings, two of two groups not started. */
    private static CallForker mixed() {
        CallForker forker = new CallForker();
        Forkers.bind(forker, 0, 9, 0, 10, 1, 2);
        Forkers.bind(forker, 0, 5, 3);
        Forkers.bind(forker, 0, 0, 4);
        forker.call(0);
        forker.answer(0, 0, 404);
        forker.answer(0, 2, 180);
        return forker;
    }

    /** "all its other branches that have not ended, started or not, end with 487". */
    private void whenOneAnswersTheOthersEndWith487() {
        CallForker forker = mixed();
        checks.states("before", forker, 0, "404 482 100 180 0 0");
        checks.same("answers", forker.answer(0, 1, 222), 222);
        checks.states("answered", forker, 0, "404 482 222 487 487 487");
        checks.finals("answered", forker, 0, 222);
        CallForker later = mixed();
        later.pass(10);
        checks.same("of a later group answers", later.answer(0, 3, 222), 222);
        checks.states("answered later", later, 0, "404 482 408 408 222 487");
    }

    /** "all others that have not ended end with 487, and the call ends". */
    private void whenOneRefusesForAllTheOthersEndWith487() {
        CallForker forker = mixed();
        checks.same("refuses for all", forker.answer(0, 2, 666), 666);
        checks.states("refused for all", forker, 0, "404 482 487 666 487 487");
        checks.finals("refused for all", forker, 0, 666);
        checks.same("nothing rings", forker.pass(100), 0);
        CallForker later = mixed();
        later.pass(10);
        checks.same("of a later group refuses for all", later.answer(0, 3, 600), 600);
        checks.states("refused for all later", later, 0, "404 482 408 408 600 487");
    }

    /** "(also 487 or 408 told by a device); both end the branch with that code". */
    private void whatADeviceTellsIsItsEndAlsoIf487Or408() {
        for (int code : new int[] {487, 408}) {
            CallForker forker = Forkers.called(5, 5, 4);
            checks.same("tells " + code, forker.answer(0, 0, code), -1);
            checks.states("told " + code, forker, 0, code + " 100 0");
            checks.same("tells " + code, forker.answer(0, 1, code), -1);
            checks.states("told " + code + " twice", forker, 0, code + " " + code + " 100");
            checks.same("tells " + code, forker.answer(0, 2, code), code);
            checks.finals("all told " + code, forker, 0, code);
            checks.same("answered", forker.answered(0), -1);
        }
    }

    /** "Returns how many branches end by that." */
    private void cancelTellsHowManyBranchesEnd() {
        CallForker forker = mixed();
        checks.same("started or not, but for those that ended", forker.cancel(0), 4);
        checks.states("cancelled", forker, 0, "404 482 487 487 487 487");
        CallForker last = Forkers.called(5, 4);
        last.answer(0, 0, 404);
        checks.same("the last one", last.cancel(0), 1);
        checks.states("cancelled at the last one", last, 0, "404 487");
        checks.same("none told before", Forkers.called(3, 2, 1).cancel(0), 3);
        CallForker two = Forkers.called(5, 4);
        two.call(0);
        two.cancel(1);
        checks.states("of the other call", two, 0, "100 0");
    }

    /** "if it has ended". */
    private void cancelThrowsIfTheCallHasEnded() {
        for (int code : new int[] {200, 299, 404, 408, 487, 600}) {
            checks.refused("cancel after " + code, STATE, () -> {
                CallForker forker = Forkers.called(5);
                forker.answer(0, 0, code);
                return forker;
            }, forker -> forker.cancel(0));
        }
        checks.refused("cancel again", STATE, () -> {
            CallForker forker = Forkers.called(5, 4);
            forker.cancel(0);
            return forker;
        }, forker -> forker.cancel(0));
        checks.refused("cancel after the ring time", STATE, () -> {
            CallForker forker = Forkers.called(5);
            forker.pass(10);
            return forker;
        }, forker -> forker.cancel(0));
        checks.refused("cancel of a call for nobody", STATE, Forkers::called, forker -> forker.cancel(0));
        CallForker ninth = Forkers.called(5);
        ninth.pass(9);
        checks.same("a tick before the ring time is over", ninth.cancel(0), 1);
    }

    /** "487, if the caller cancelled it", whatever its branches ended with. */
    private void aCancelledCallEndsWith487() {
        CallForker forker = mixed();
        forker.cancel(0);
        checks.finals("cancelled with 404 and 482", forker, 0, 487);
        CallForker first = Forkers.called(5);
        first.cancel(0);
        checks.finals("cancelled at first", first, 0, 487);
        CallForker late = Forkers.called(5, 4);
        late.answer(0, 0, 300);
        late.pass(3);
        late.cancel(0);
        late.answer(0, 1, 299);
        late.pass(100);
        checks.finals("cancelled, and answered too much", late, 0, 487);
    }

    /** A call whose devices tell these codes, in this order, each in a group of its own or all in one. */
    private void ends(int due, int... codes) {
        for (int step : new int[] {0, 1}) {
            int[] qualities = new int[codes.length];
            for (int device = 0; device < codes.length; device++) {
                qualities[device] = 9 - step * device;
            }
            CallForker forker = Forkers.called(qualities);
            int told = 0;
            for (int device = 0; device < codes.length; device++) {
                told = forker.answer(0, device, codes[device]);
            }
            checks.same("the last of the answers", told, due);
            checks.finals("the best of the ends", forker, 0, due);
        }
    }

    /** "otherwise the least". */
    private void theLeastEndIsTheBest() {
        ends(300, 300, 301, 302);
        ends(300, 301, 300, 302);
        ends(300, 302, 301, 300);
        ends(404, 599, 503, 404, 404);
        ends(598, 599, 598);
        ends(404, 404);
        ends(408, 409, 410, 408);
        ends(407, 408, 407);
    }

    /** "487 left out" and "487, if all have ended with that". */
    private void endsOf487AreLeftOut() {
        ends(488, 487, 488);
        ends(599, 487, 599, 487);
        ends(486, 487, 486, 488);
        ends(487, 487);
        ends(487, 487, 487, 487);
        CallForker forker = new CallForker();
        Forkers.bind(forker, 0, 9, 0);
        Forkers.bind(forker, 0, 5, 10);
        forker.call(0);
        checks.same("482 is left", forker.answer(0, 0, 487), 482);
        checks.finals("482 is left", forker, 0, 482);
    }

    /** "the greatest of those of 600 or more, if there are such". */
    private void aRefusalForAllIsBetterThanTheLeast() {
        ends(600, 300, 599, 600);
        ends(699, 599, 487, 699);
        ends(603, 603);
    }

    /** A call with two devices tried and one not started, when the first of them has told this code. */
    private static CallForker withFirstEnded(int code) {
        CallForker forker = Forkers.called(5, 5, 4);
        forker.answer(0, 0, code);
        return forker;
    }

    /** "An answer of 200 to 299". */
    private void anAnswerTooMuchIsFrom200To299() {
        for (int end : new int[] {487, 408}) {
            for (int code : new int[] {200, 201, 298, 299}) {
                CallForker forker = withFirstEnded(end);
                checks.same("too much with " + code, forker.answer(0, 0, code), -1);
                checks.same("hung up with " + code, forker.hungUp(0), 1);
            }
            for (int code : new int[] {180, 300, 404, 408, 487, 599, 600, 699}) {
                checks.refused("no answer too much with " + code, STATE, () -> withFirstEnded(end),
                        forker -> forker.answer(0, 0, code));
            }
        }
    }

    /** "that has ended with 487 or 408", by whatever. */
    private void anAnswerTooMuchIsForAnEndOf487Or408() {
        CallForker answered = mixed();
        answered.answer(0, 1, 202);
        checks.same("too much after another one answered", answered.answer(0, 2, 200), 202);
        CallForker refused = mixed();
        refused.answer(0, 1, 600);
        checks.same("too much after another one refused for all", refused.answer(0, 2, 200), 600);
        CallForker cancelled = mixed();
        cancelled.cancel(0);
        checks.same("too much after a cancel", cancelled.answer(0, 2, 200), 487);
        CallForker timed = mixed();
        timed.pass(10);
        checks.same("too much after the ring time", timed.answer(0, 2, 200), -1);
        for (int code : new int[] {300, 404, 407, 409, 480, 482, 486, 488, 599}) {
            checks.refused("no answer too much after " + code, STATE, () -> withFirstEnded(code),
                    forker -> forker.answer(0, 0, 200));
        }
        for (int code : new int[] {200, 299, 600, 699}) {
            checks.refused("no answer too much after its own " + code, STATE, () -> withFirstEnded(code),
                    forker -> forker.answer(0, 0, 200));
        }
    }

    /** "for a branch whose group was started". */
    private void anAnswerTooMuchIsForAGroupThatWasStarted() {
        checks.refused("not started when answered", STATE, () -> withFirstEnded(200),
                forker -> forker.answer(0, 2, 200));
        checks.refused("not started when refused for all", STATE, () -> withFirstEnded(600),
                forker -> forker.answer(0, 2, 200));
        checks.refused("not started when cancelled", STATE, () -> {
            CallForker forker = withFirstEnded(404);
            forker.cancel(0);
            return forker;
        }, forker -> forker.answer(0, 2, 299));
        for (int code : new int[] {180, 200, 299, 300, 600, 699}) {
            checks.refused("not started yet, with " + code, STATE, () -> withFirstEnded(404),
                    forker -> forker.answer(0, 2, code));
        }
        CallForker started = withFirstEnded(404);
        started.pass(10);
        started.cancel(0);
        checks.same("started when cancelled", started.answer(0, 2, 299), 487);
        checks.same("of the group before", started.answer(0, 1, 299), 487);
    }

    /** "for each branch this is done once at the most". */
    private void anAnswerTooMuchIsHungUpOnceForEachBranch() {
        CallForker forker = Forkers.called(5, 5, 5);
        forker.call(0);
        forker.answer(0, 2, 200);
        forker.answer(0, 0, 200);
        checks.fails("once more", STATE, () -> forker.answer(0, 0, 200));
        checks.fails("once more with another code", STATE, () -> forker.answer(0, 0, 299));
        checks.same("another branch", forker.answer(0, 1, 200), 200);
        checks.fails("that branch once more", STATE, () -> forker.answer(0, 1, 200));
        forker.pass(10);
        checks.same("the same device for another call", forker.answer(1, 0, 200), 408);
        checks.fails("once more for that call", STATE, () -> forker.answer(1, 0, 200));
        checks.fails("once more for the first", STATE, () -> forker.answer(0, 0, 200));
        checks.same("hung up of the device", forker.hungUp(0), 2);
        checks.same("hung up of another", forker.hungUp(1), 1);
        checks.same("hung up of the one answered", forker.hungUp(2), 0);
    }

    /** "it is hung up, and changes nothing else". */
    private void anAnswerTooMuchChangesNothingElse() {
        CallForker forker = mixed();
        forker.call(0);
        forker.answer(0, 1, 404);
        forker.answer(0, 2, 408);
        forker.pass(3);
        String before = Forkers.allButHungUp(forker);
        checks.same("too much", forker.answer(0, 2, 299), -1);
        checks.same("all else", Forkers.allButHungUp(forker), before);
        checks.same("hung up", forker.hungUp(2), 1);
        checks.states("then", forker, 0, "404 482 404 408 100 0");
        checks.same("the ring time goes on", forker.pass(6), 0);
        checks.states("before the ring time is over", forker, 0, "404 482 404 408 100 0");
        forker.pass(1);
        checks.states("after the ring time", forker, 0, "404 482 404 408 408 100");
    }

    private void anAnswerTooMuchMayComeBeforeTheCallEnds() {
        CallForker forker = Forkers.called(5, 4);
        forker.pass(10);
        checks.same("late, while the next one is tried", forker.answer(0, 0, 200), -1);
        checks.same("answered by none", forker.answered(0), -1);
        checks.same("the next one answers", forker.answer(0, 1, 201), 201);
        checks.finals("by the next one", forker, 0, 201);
        checks.same("answered by the next one", forker.answered(0), 1);
    }

    /** "the call has no branch for the device". */
    private void answerThrowsIfThereIsNoBranchForTheDevice() {
        for (int code : new int[] {180, 200, 299, 300, 600, 699}) {
            checks.refused("of another device", STATE, () -> Forkers.called(5, 4), one -> one.answer(0, 2, code));
            checks.refused("of a call for nobody", STATE, Forkers::called, one -> one.answer(0, 0, code));
        }
        CallForker forker = Forkers.called(5);
        forker.register(0, 7, 5, 9, 0);
        checks.fails("of a device registered since", STATE, () -> forker.answer(0, 7, 200));
        forker.register(1, 11, 5, 9, 0);
        forker.call(1);
        checks.fails("of a branch without device", STATE, () -> forker.answer(1, 0, 200));
    }

    /** "the branch has ended and this is no answer too much". */
    private void answerThrowsIfTheBranchHasEnded() {
        for (int end : new int[] {200, 299, 300, 404, 408, 487, 599, 600, 699}) {
            for (int code : new int[] {180, 300, 404, 408, 487, 599, 600, 699}) {
                checks.refused("a " + code + " after a " + end, STATE, () -> withFirstEnded(end),
                        forker -> forker.answer(0, 0, code));
            }
        }
    }

    /** "When a call throws, nothing has changed": nor whether an answer too much was hung up. */
    private void whatAnswerRefusesChangesNothing() {
        CallForker forker = withFirstEnded(487);
        checks.fails("rings when ended", STATE, () -> forker.answer(0, 0, 180));
        checks.fails("refuses when ended", STATE, () -> forker.answer(0, 0, 300));
        checks.fails("no code", IllegalArgumentException.class, () -> forker.answer(0, 0, 199));
        checks.fails("not started", STATE, () -> forker.answer(0, 2, 200));
        forker.pass(10);
        forker.pass(10);
        checks.same("too much still", forker.answer(0, 0, 200), 408);
        checks.same("too much when started since", forker.answer(0, 2, 200), 408);
        checks.same("hung up", forker.hungUp(0) + forker.hungUp(2), 2);
    }

    /** "Returns the branch that was answered, -1 if there is none." */
    private void answeredIsTheBranch() {
        CallForker forker = new CallForker();
        Forkers.bind(forker, 0, 9, 10, 9, 5);
        forker.call(0);
        forker.call(0);
        checks.same("before", forker.answered(0), -1);
        forker.answer(0, 5, 200);
        checks.same("the branch, not the device", forker.answered(0), 2);
        checks.same("of the other call", forker.answered(1), -1);
        forker.answer(0, 9, 200);
        checks.same("not the one too much", forker.answered(0), 2);
        forker.cancel(1);
        checks.same("of a cancelled call", forker.answered(1), -1);
        forker.call(1);
        checks.same("of a call for nobody", forker.answered(2), -1);
        checks.same("the first branch", Forkers.called(5, 5).answered(0), -1);
        CallForker first = Forkers.called(5, 5);
        first.answer(0, 0, 200);
        checks.same("the first branch answered", first.answered(0), 0);
    }

    /** "Returns how many answers too much of a device were hung up." */
    private void hungUpCountsEachDevice() {
        CallForker forker = Forkers.withDevices(5, 5);
        for (int call = 0; call < 20; call++) {
            forker.call(0);
            forker.answer(call, call % 2, 200);
            forker.answer(call, 1 - call % 2, 201);
            checks.same("hung up of 0", forker.hungUp(0), (call + 1) / 2);
            checks.same("hung up of 1", forker.hungUp(1), (call + 2) / 2);
        }
        checks.same("of another", forker.hungUp(2), 0);
    }
}
