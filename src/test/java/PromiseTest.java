/** The promises of the document one by one: ordinary inputs, edges and wrong inputs. */
public final class PromiseTest {
    private static final Class<IllegalArgumentException> ARGUMENT = IllegalArgumentException.class;
    private static final Class<IllegalStateException> STATE = IllegalStateException.class;
    private static final Class<IndexOutOfBoundsException> INDEX = IndexOutOfBoundsException.class;
    private static final int[] NO_USERS = {-1, 6, Integer.MIN_VALUE, Integer.MAX_VALUE};
    private static final int[] NO_DEVICES = {-1, 10, 15, Integer.MIN_VALUE, Integer.MAX_VALUE};
    private static final int[] NO_FIRST = {-1, 1, 19, 20, Integer.MIN_VALUE, Integer.MAX_VALUE};

    private final Checks checks = new Checks("PromiseTest");

    private PromiseTest() {
    }

    public static void main(String[] arguments) {
        PromiseTest test = new PromiseTest();
        test.promise1NewObject();
        test.promise2Register();
        test.promise2RegisterRefused();
        test.promise2RegisterAllTargets();
        test.promise3Bindings();
        test.promise4Binding();
        test.promise5CallForksToDevices();
        test.promise5CallGoesRound();
        test.promise5CallGoesTooFar();
        test.promise5CallAtMostTwelveBranches();
        test.promise5CallRefused();
        test.promise6AnswerRings();
        test.promise6AnswerAnswers();
        test.promise6AnswerRefuses();
        test.promise6AnswerRefusesForAll();
        test.promise6AnswerTooMuch();
        test.promise6AnswerRefused();
        test.promise6AnswerOrderOfExceptions();
        test.promise7Cancel();
        test.promise8Pass();
        test.promise8PassSkipsGroupsThatHaveEnded();
        test.promise8PassLooksAtAllCalls();
        test.promise9Time();
        test.promise10Calls();
        test.promise11FinalOf();
        test.promise12FinalBySorting();
        test.promise13Branches();
        test.promise14Device();
        test.promise15State();
        test.promise16Answered();
        test.promise17HungUp();
        test.checks.end();
    }

    private void promise1NewObject() {
        CallForker forker = new CallForker();
        checks.same("time", forker.time(), 0);
        checks.same("calls", forker.calls(), 0);
        for (int user = 0; user < 6; user++) {
            checks.same("bindings", forker.bindings(user), 0);
        }
        for (int device = 0; device < 10; device++) {
            checks.same("hungUp", forker.hungUp(device), 0);
        }
        Forkers.withDevices(1, 2).call(0);
        checks.same("calls beside another object", forker.calls(), 0);
        checks.same("bindings beside another object", forker.bindings(0), 0);
    }

    private void promise2Register() {
        CallForker forker = new CallForker();
        checks.same("register least", forker.register(0, 0, 0, 1, 0), 1);
        checks.same("register greatest", forker.register(0, 15, 10, 1000, 10000), 2);
        checks.same("register for another", forker.register(5, 15, 10, 1000, 10000), 1);
        checks.same("anew", forker.register(0, 0, 7, 20, 1), 2);
        checks.same("made anew in its place", Forkers.row(forker, 0), "7 1510");
        checks.same("taken away", forker.register(0, 0, 7, 0, 2), 1);
        checks.same("what is left", Forkers.row(forker, 0), "1510");
        checks.same("back again", forker.register(0, 0, 3, 4, 3), 2);
        checks.same("in its first order", Forkers.row(forker, 0), "3 1510");
        forker.pass(4);
        checks.same("expired", forker.bindings(0), 1);
        checks.same("after it expired", forker.register(0, 0, 2, 4, 5), 2);
        checks.same("in its first order still", Forkers.row(forker, 0), "2 1510");
        checks.same("one never there for 0 ticks", forker.register(0, 4, 2, 0, 5), 2);
        checks.same("one later", forker.register(0, 5, 2, 9, 5), 3);
        checks.same("the one from before", forker.register(0, 4, 2, 9, 6), 4);
        checks.same("ordered as first registered", Forkers.row(forker, 0), "2 1510 402 502");
        checks.same("others count expiry", forker.pass(4) + forker.register(0, 6, 0, 1, 0), 4);
        checks.same("longer than before", forker.register(0, 6, 0, 50, 1), 4);
        checks.same("shorter than before", forker.register(0, 6, 0, 2, 2), 4);
        forker.pass(2);
        checks.same("the shorter time holds", Forkers.row(forker, 0), "1510 402 502");
    }

    private void promise2RegisterRefused() {
        CallForker forker = Forkers.withDevices(1, 1, 1, 1, 1);
        for (int wrong : NO_USERS) {
            checks.fails("register user", ARGUMENT, () -> forker.register(wrong, 0, 0, 1, 9));
        }
        for (int wrong : new int[] {-1, 16, Integer.MIN_VALUE, Integer.MAX_VALUE}) {
            checks.fails("register target", ARGUMENT, () -> forker.register(0, wrong, 0, 1, 9));
        }
        for (int wrong : new int[] {-1, 11, Integer.MIN_VALUE, Integer.MAX_VALUE}) {
            checks.fails("register quality", ARGUMENT, () -> forker.register(0, 0, wrong, 1, 9));
        }
        for (int wrong : new int[] {-1, 1001, Integer.MIN_VALUE, Integer.MAX_VALUE}) {
            checks.fails("register ticks", ARGUMENT, () -> forker.register(0, 0, 0, wrong, 9));
        }
        for (int wrong : new int[] {-1, 10001, Integer.MIN_VALUE, Integer.MAX_VALUE}) {
            checks.fails("register sequence", ARGUMENT, () -> forker.register(0, 0, 0, 1, wrong));
        }
        checks.fails("the same sequence", STATE, () -> forker.register(0, 0, 0, 1, 0));
        checks.fails("the same sequence, to take away", STATE, () -> forker.register(0, 0, 0, 0, 0));
        checks.same("nothing changed", Forkers.row(forker, 0), "1 101 201 301 401");
        checks.same("a user and a device count alike", forker.register(0, 10, 1, 5, 5), 6);
        checks.fails("a less sequence", STATE, () -> forker.register(0, 10, 1, 5, 4));
        checks.fails("6 others", STATE, () -> forker.register(0, 9, 1, 5, 5));
        checks.same("6 others, for 0 ticks", forker.register(0, 9, 1, 0, 5), 6);
        checks.fails("the sequence for 0 ticks counts", STATE, () -> forker.register(0, 9, 1, 0, 5));
        checks.same("of 6 one anew", forker.register(0, 10, 2, 5, 6), 6);
        forker.pass(5);
        checks.fails("a sequence of one that expired", STATE, () -> forker.register(0, 10, 2, 5, 6));
        checks.same("the one that threw before, with its sequence", forker.register(0, 8, 1, 5, 5), 6);
        checks.fails("6 others for one that expired", STATE, () -> forker.register(0, 10, 2, 5, 7));
        checks.same("taken away", forker.register(0, 8, 2, 0, 6), 5);
        checks.fails("the sequence of one taken away", STATE, () -> forker.register(0, 8, 2, 5, 6));
        checks.same("what threw changed no sequence", forker.register(0, 10, 2, 5, 7), 6);
        checks.same("the order", Forkers.row(forker, 0), "1 101 201 301 401 1002");
        checks.fails("both", ARGUMENT, () -> forker.register(0, 9, 11, 5, 5));
    }

    private void promise2RegisterAllTargets() {
        CallForker forker = new CallForker();
        for (int target = 15; target >= 0; target--) {
            checks.same("at most three at once", forker.register(0, target, 1, 3, 0), Math.min(3, 16 - target));
            forker.pass(1);
        }
        checks.same("the last ones", Forkers.row(forker, 0), "101 1");
        checks.fails("behind them", INDEX, () -> forker.binding(0, 2));
        forker.call(0);
        checks.same("devices", Forkers.devices(forker, 0), "1 0");
        checks.same("the first one again", forker.register(0, 15, 1, 3, 1), 3);
        checks.same("in its first order", Forkers.row(forker, 0), "1501 101 1");
    }

    private void promise3Bindings() {
        CallForker forker = new CallForker();
        forker.register(3, 1, 0, 5, 0);
        forker.register(3, 2, 0, 7, 0);
        checks.same("bindings", forker.bindings(3), 2);
        checks.same("bindings of others", forker.bindings(2) + forker.bindings(4), 0);
        forker.pass(4);
        checks.same("before one expires", forker.bindings(3), 2);
        forker.pass(1);
        checks.same("when one expires", forker.bindings(3), 1);
        forker.pass(2);
        checks.same("when all have", forker.bindings(3), 0);
        for (int wrong : NO_USERS) {
            checks.fails("bindings", ARGUMENT, () -> forker.bindings(wrong));
        }
    }

    private void promise4Binding() {
        CallForker forker = new CallForker();
        forker.register(3, 9, 10, 5, 0);
        forker.register(3, 2, 4, 7, 0);
        forker.register(3, 13, 0, 9, 0);
        checks.same("binding 0", forker.binding(3, 0), 910);
        checks.same("binding 1", forker.binding(3, 1), 204);
        checks.same("binding 2", forker.binding(3, 2), 1300);
        checks.fails("binding 3", INDEX, () -> forker.binding(3, 3));
        forker.pass(5);
        checks.same("binding 0 then", forker.binding(3, 0), 204);
        checks.fails("binding 2 then", INDEX, () -> forker.binding(3, 2));
        for (int wrong : new int[] {-1, 6, 16, Integer.MIN_VALUE, Integer.MAX_VALUE}) {
            checks.fails("binding place", INDEX, () -> forker.binding(3, wrong));
        }
        CallForker zero = Forkers.withDevices(1, 1);
        checks.fails("binding behind device 0", INDEX, () -> zero.binding(0, 2));
        for (int wrong : NO_USERS) {
            checks.fails("binding user", ARGUMENT, () -> forker.binding(wrong, 0));
            checks.fails("binding user and place", ARGUMENT, () -> forker.binding(wrong, -1));
        }
    }

    private void promise5CallForksToDevices() {
        CallForker forker = Forkers.withDevices(3, 9, 3, 9, 0);
        forker.register(1, 4, 10, 1000, 0);
        forker.register(1, 10, 6, 5, 0);
        forker.register(1, 3, 8, 1000, 0);
        checks.same("the first call", forker.call(0), 0);
        checks.states("of the greatest quality", forker, 0, "0 100 0 100 0");
        checks.same("the second call", forker.call(1), 1);
        checks.same("devices by a user", Forkers.devices(forker, 1), "4 0 1 2 3");
        checks.states("with the quality of the first way", forker, 1, "100 0 0 0 0");
        forker.answer(1, 4, 404);
        checks.states("of the user's quality together", forker, 1, "404 100 100 100 100");
        forker.pass(5);
        checks.same("without the user", forker.call(1), 2);
        checks.same("devices without the user", Forkers.devices(forker, 2), "4 3");
        checks.same("nobody there", forker.call(5), 3);
        checks.finals("of nobody", forker, 3, 480);
        forker.register(5, 11, 1, 100, 0);
        forker.register(1, 4, 10, 0, 1);
        forker.register(1, 3, 10, 0, 1);
        checks.same("nobody behind a user", forker.call(5), 4);
        checks.same("no branches", forker.branches(4), 0);
        checks.finals("of nobody behind a user", forker, 4, 480);
    }

    private void promise5CallGoesRound() {
        CallForker forker = new CallForker();
        forker.register(0, 10, 4, 100, 0);
        checks.same("to oneself", forker.call(0), 0);
        checks.same("no device", Forkers.devices(forker, 0), "-1");
        checks.states("to oneself", forker, 0, "482");
        checks.finals("to oneself", forker, 0, 482);
        forker.register(1, 12, 4, 100, 0);
        forker.register(1, 13, 5, 100, 0);
        forker.register(2, 13, 9, 100, 0);
        forker.register(2, 11, 9, 100, 0);
        forker.register(3, 7, 9, 100, 0);
        forker.register(3, 11, 9, 100, 0);
        forker.call(1);
        checks.same("one user by two ways", Forkers.devices(forker, 1), "7 -1 -1 -1");
        checks.states("round, in the group of the first way", forker, 1, "100 482 482 482");
        checks.same("not ended yet", forker.finalOf(1), -1);
        forker.pass(10);
        checks.finals("round and timed out", forker, 1, 408);
    }

    private void promise5CallGoesTooFar() {
        CallForker forker = new CallForker();
        for (int user = 0; user < 5; user++) {
            forker.register(user, 11 + user, 10 - user, 100, 0);
            forker.register(user, user, user, 100, 0);
        }
        forker.register(2, 10, 5, 100, 0);
        forker.register(2, 12, 5, 100, 0);
        forker.call(0);
        checks.same("two users behind", Forkers.devices(forker, 0), "-1 2 -1 -1 1 0");
        checks.states("too far, or round", forker, 0, "483 100 482 482 100 0");
        forker.call(3);
        checks.same("one user behind", Forkers.devices(forker, 1), "4 3");
        checks.states("one user behind", forker, 1, "100 0");
        forker.register(5, 13, 1, 100, 0);
        forker.call(5);
        checks.same("just two users behind", Forkers.devices(forker, 2), "-1 4 3");
        checks.states("round by the called one", forker, 2, "482 100 100");
        forker.register(4, 10, 1, 100, 1);
        forker.register(5, 14, 1, 100, 1);
        forker.register(0, 0, 1, 0, 1);
        forker.register(0, 11, 1, 0, 1);
        forker.register(0, 13, 1, 100, 1);
        forker.register(5, 13, 1, 0, 1);
        forker.call(5);
        checks.same("the third ends at once", Forkers.devices(forker, 3), "-1 4 -1");
        checks.states("the third: round by the called one, too far", forker, 3, "482 100 483");
    }

    private void promise5CallAtMostTwelveBranches() {
        CallForker forker = new CallForker();
        for (int user = 1; user < 5; user++) {
            for (int target = 11; target < 16; target++) {
                forker.register(user, target, 1, 100, 0);
            }
        }
        forker.register(0, 0, 5, 100, 0);
        forker.register(0, 11, 5, 100, 0);
        forker.register(0, 1, 6, 100, 0);
        forker.call(0);
        checks.same("at most twelve", forker.branches(0), 12);
        checks.same("the first of them", forker.device(0, 0), 0);
        checks.states("without the device behind them", forker, 0,
                "100 482 482 482 483 483 483 482 483 482 483 483");
        checks.fails("one left out", STATE, () -> forker.answer(0, 1, 180));
        checks.same("a full call ends", forker.pass(10), 1);
        checks.finals("of a full call", forker, 0, 408);
        checks.same("too much of a full call", forker.answer(0, 0, 200), 408);
        forker.call(0);
        checks.same("cancel a full call", forker.cancel(1), 1);
        checks.finals("of a full call cancelled", forker, 1, 487);
    }

    private void promise5CallRefused() {
        CallForker forker = Forkers.withDevices(1);
        for (int wrong : NO_USERS) {
            checks.fails("call", ARGUMENT, () -> forker.call(wrong));
        }
        for (int call = 0; call < 20; call++) {
            checks.same("call", forker.call(call % 6), call);
        }
        checks.fails("the 21st call", STATE, () -> forker.call(0));
        checks.fails("the 21st call, of nobody", ARGUMENT, () -> forker.call(6));
        checks.same("calls", forker.calls(), 20);
    }

    private void promise6AnswerRings() {
        CallForker forker = Forkers.withDevices(5, 5);
        forker.call(0);
        checks.same("rings", forker.answer(0, 1, 180), -1);
        checks.same("rings again", forker.answer(0, 1, 180), -1);
        checks.states("of one that rings", forker, 0, "100 180");
        checks.same("still open", forker.finalOf(0), -1);
        checks.same("answers when it rings", forker.answer(0, 1, 200), 200);
    }

    private void promise6AnswerAnswers() {
        for (int code : new int[] {200, 201, 299}) {
            CallForker forker = Forkers.withDevices(5, 6, 6, 6, 5);
            forker.call(0);
            forker.answer(0, 1, 404);
            forker.answer(0, 2, 180);
            checks.same("answers", forker.answer(0, 3, code), code);
            checks.states("of an answered call", forker, 0, "487 404 487 " + code + " 487");
            checks.finals("of an answered call", forker, 0, code);
            checks.same("answered", forker.answered(0), 3);
        }
        CallForker last = Forkers.withDevices(6, 5);
        last.call(0);
        last.answer(0, 0, 302);
        checks.same("a later group answers", last.answer(0, 1, 299), 299);
        checks.finals("of a later group", last, 0, 299);
    }

    private void promise6AnswerRefuses() {
        for (int code : new int[] {300, 302, 408, 487, 500, 599}) {
            CallForker forker = Forkers.withDevices(6, 5, 6, 4);
            forker.call(0);
            checks.same("refuses", forker.answer(0, 0, code), -1);
            checks.states("of a refusal", forker, 0, code + " 0 100 0");
            checks.same("the other refuses", forker.answer(0, 2, 486), -1);
            checks.states("of the next group", forker, 0, code + " 100 486 0");
            checks.same("the next refuses", forker.answer(0, 1, 487), -1);
            checks.states("of the last group", forker, 0, code + " 487 486 100");
            int least = code == 487 ? 486 : Math.min(code, 486);
            checks.same("the last refuses", forker.answer(0, 3, 599), least);
            checks.finals("the least", forker, 0, least);
            checks.same("none answered", forker.answered(0), -1);
        }
        CallForker forker = Forkers.withDevices(6, 5);
        forker.call(0);
        forker.answer(0, 0, 487);
        checks.same("all told 487", forker.answer(0, 1, 487), 487);
        checks.finals("all told 487", forker, 0, 487);
    }

    private void promise6AnswerRefusesForAll() {
        for (int code : new int[] {600, 603, 699}) {
            CallForker forker = Forkers.withDevices(6, 6, 6, 4);
            forker.call(0);
            forker.answer(0, 0, 300);
            forker.answer(0, 1, 180);
            checks.same("refuses for all", forker.answer(0, 2, code), code);
            checks.states("of a refusal for all", forker, 0, "300 487 " + code + " 487");
            checks.finals("of a refusal for all", forker, 0, code);
            checks.same("none answered", forker.answered(0), -1);
        }
    }

    private void promise6AnswerTooMuch() {
        CallForker forker = Forkers.withDevices(6, 6, 6, 6, 4, 3);
        forker.call(0);
        forker.answer(0, 0, 408);
        checks.same("too much after 408 told", forker.answer(0, 0, 200), -1);
        forker.answer(0, 1, 487);
        checks.same("too much after 487 told", forker.answer(0, 1, 299), -1);
        forker.answer(0, 2, 180);
        forker.pass(10);
        checks.same("too much after 408 by time", forker.answer(0, 2, 250), -1);
        checks.same("time goes on", forker.pass(9), 0);
        checks.same("answers", forker.answer(0, 4, 222), 222);
        checks.same("too much after an answer", forker.answer(0, 3, 233), 222);
        checks.states("are as they were", forker, 0, "408 487 408 408 222 487");
        checks.finals("is as it was", forker, 0, 222);
        checks.same("answered", forker.answered(0), 4);
        for (int device = 0; device < 6; device++) {
            checks.same("hung up", forker.hungUp(device), device < 4 ? 1 : 0);
            int again = device;
            checks.fails("hung up before, or none", STATE, () -> forker.answer(0, again, 200));
        }
        forker.call(0);
        forker.cancel(1);
        checks.same("too much after a cancel", forker.answer(1, 0, 200), 487);
        checks.same("hung up for another call", forker.hungUp(0), 2);
        checks.fails("not started when cancelled", STATE, () -> forker.answer(1, 4, 200));
        forker.call(0);
        forker.answer(2, 0, 600);
        checks.same("too much after a refusal for all", forker.answer(2, 1, 200), 600);
        checks.fails("not started when refused for all", STATE, () -> forker.answer(2, 5, 200));
    }

    private void promise6AnswerRefused() {
        CallForker forker = Forkers.withDevices(6, 6, 6, 4);
        forker.call(0);
        for (int wrong : NO_FIRST) {
            checks.fails("answer call", INDEX, () -> forker.answer(wrong, 0, 200));
        }
        for (int wrong : NO_DEVICES) {
            checks.fails("answer device", ARGUMENT, () -> forker.answer(0, wrong, 200));
        }
        for (int wrong : new int[] {-1, 0, 100, 179, 181, 199, 700, Integer.MIN_VALUE, Integer.MAX_VALUE}) {
            checks.fails("answer code", ARGUMENT, () -> forker.answer(0, 0, wrong));
        }
        forker.answer(0, 0, 404);
        forker.answer(0, 1, 408);
        for (int code : new int[] {180, 200, 299, 300, 404, 600, 699}) {
            checks.fails("no branch", STATE, () -> forker.answer(0, 9, code));
            checks.fails("not started", STATE, () -> forker.answer(0, 3, code));
            checks.fails("has ended", STATE, () -> forker.answer(0, 0, code));
            if (code / 100 != 2) {
                checks.fails("has ended with 408", STATE, () -> forker.answer(0, 1, code));
            }
        }
        checks.states("are as they were", forker, 0, "404 408 100 0");
        checks.same("none hung up", forker.hungUp(0) + forker.hungUp(1) + forker.hungUp(9), 0);
        forker.answer(0, 2, 200);
        checks.fails("the answered one again", STATE, () -> forker.answer(0, 2, 200));
        checks.fails("the answered one refuses", STATE, () -> forker.answer(0, 2, 487));
    }

    private void promise6AnswerOrderOfExceptions() {
        CallForker forker = new CallForker();
        checks.fails("no call, no device", INDEX, () -> forker.answer(0, 10, 200));
        forker.call(0);
        checks.fails("no device, no branch", ARGUMENT, () -> forker.answer(0, 10, 200));
        checks.fails("no code, no branch", ARGUMENT, () -> forker.answer(0, 0, 199));
        checks.fails("no branch", STATE, () -> forker.answer(0, 0, 200));
        forker.register(1, 11, 1, 100, 0);
        forker.register(1, 0, 1, 100, 0);
        forker.call(1);
        checks.fails("a branch without device", ARGUMENT, () -> forker.answer(1, -1, 200));
    }

    private void promise7Cancel() {
        CallForker forker = Forkers.withDevices(6, 6, 6, 4, 3);
        forker.call(0);
        forker.call(0);
        forker.answer(0, 0, 404);
        forker.answer(0, 1, 180);
        checks.same("cancel", forker.cancel(0), 4);
        checks.states("of a cancelled call", forker, 0, "404 487 487 487 487");
        checks.finals("of a cancelled call", forker, 0, 487);
        checks.states("of another call", forker, 1, "100 100 100 0 0");
        checks.same("none answered", forker.answered(0), -1);
        checks.fails("cancel again", STATE, () -> forker.cancel(0));
        forker.answer(1, 0, 200);
        checks.fails("cancel an answered call", STATE, () -> forker.cancel(1));
        checks.finals("of an answered call", forker, 1, 200);
        forker.call(3);
        checks.fails("cancel one of nobody", STATE, () -> forker.cancel(2));
        for (int wrong : new int[] {-1, 3, 20, Integer.MIN_VALUE, Integer.MAX_VALUE}) {
            checks.fails("cancel", INDEX, () -> forker.cancel(wrong));
        }
        forker.call(0);
        forker.pass(20);
        checks.same("cancel in the last group", forker.cancel(3), 1);
        checks.states("of the last group", forker, 3, "408 408 408 408 487");
        checks.finals("cancelled late", forker, 3, 487);
        checks.same("nothing to end", forker.pass(100), 0);
    }

    private void promise8Pass() {
        CallForker forker = Forkers.withDevices(6, 4, 4);
        forker.pass(3);
        forker.call(0);
        checks.same("nine ticks", forker.pass(9), 0);
        checks.states("after nine ticks", forker, 0, "100 0 0");
        checks.same("the tenth", forker.pass(1), 0);
        checks.states("after ten ticks", forker, 0, "408 100 100");
        forker.pass(4);
        forker.answer(0, 1, 180);
        forker.pass(5);
        checks.states("before the ring time is over", forker, 0, "408 180 100");
        checks.same("the last tick", forker.pass(1), 1);
        checks.states("after the ring time", forker, 0, "408 408 408");
        checks.finals("of a call that nobody answered", forker, 0, 408);
        checks.same("ended once", forker.pass(100), 0);
        forker.call(0);
        forker.pass(5);
        forker.answer(1, 0, 404);
        checks.same("the ring time of the group's start", forker.pass(9), 0);
        checks.states("before the second ring time is over", forker, 1, "404 100 100");
        forker.answer(1, 1, 404);
        checks.same("over", forker.pass(1), 1);
        checks.finals("of refusals and time", forker, 1, 404);
        for (int wrong : new int[] {0, -1, 101, Integer.MIN_VALUE, Integer.MAX_VALUE}) {
            checks.fails("pass", ARGUMENT, () -> forker.pass(wrong));
        }
        checks.same("what throws takes no time", forker.time(), 138);
        CallForker expiring = new CallForker();
        expiring.register(0, 0, 1, 5, 0);
        expiring.call(0);
        expiring.pass(6);
        checks.same("a branch outlives its binding", expiring.answer(0, 0, 200), 200);
    }

    private void promise8PassSkipsGroupsThatHaveEnded() {
        CallForker forker = new CallForker();
        forker.register(0, 10, 9, 100, 0);
        forker.register(0, 0, 8, 100, 0);
        forker.register(1, 10, 7, 100, 0);
        forker.register(1, 11, 6, 100, 0);
        forker.register(1, 1, 0, 100, 0);
        forker.call(0);
        checks.states("past a group that has ended", forker, 0, "482 100");
        forker.call(1);
        checks.states("a group with one that has ended", forker, 1, "482 100 482 0");
        checks.same("the first ends", forker.pass(10), 1);
        checks.states("past one in the middle", forker, 1, "482 408 482 100");
        checks.same("quality 0 is the last", forker.pass(10), 1);
        checks.finals("the least of the ends", forker, 1, 408);
        forker.call(1);
        forker.answer(2, 0, 500);
        checks.states("past one in the middle, by a refusal", forker, 2, "482 500 482 100");
        checks.same("482 is the least", forker.answer(2, 1, 500), 482);
        checks.finals("482 is the least", forker, 2, 482);
    }

    private void promise8PassLooksAtAllCalls() {
        CallForker forker = Forkers.withDevices(5);
        for (int call = 0; call < 10; call++) {
            forker.call(0);
            forker.pass(1);
        }
        checks.same("one has ended", forker.finalOf(0), 408);
        checks.same("the second is open", forker.finalOf(1), -1);
        checks.same("three end", forker.pass(3), 3);
        forker.cancel(9);
        checks.same("five end", forker.pass(100), 5);
        forker.call(0);
        forker.call(0);
        checks.same("two at once", forker.pass(100), 2);
        checks.same("time", forker.time(), 213);
    }

    private void promise9Time() {
        CallForker forker = new CallForker();
        forker.pass(1);
        checks.same("time", forker.time(), 1);
        forker.pass(100);
        checks.same("time", forker.time(), 101);
        for (int pass = 0; pass < 500; pass++) {
            forker.pass(100);
        }
        checks.same("time", forker.time(), 50101);
        forker.register(0, 0, 0, 1, 0);
        forker.call(0);
        checks.same("time stands", forker.time(), 50101);
    }

    private void promise10Calls() {
        CallForker forker = Forkers.withDevices(5);
        for (int call = 0; call < 20; call++) {
            checks.same("calls", forker.calls(), call);
            forker.call(call % 2);
        }
        checks.fails("one too many", STATE, () -> forker.call(0));
        checks.same("calls", forker.calls(), 20);
        forker.cancel(0);
        checks.same("ended ones count", forker.calls(), 20);
    }

    private void promise11FinalOf() {
        CallForker forker = Forkers.withDevices(5, 5, 5);
        checks.fails("finalOf before", INDEX, () -> forker.finalOf(0));
        forker.call(0);
        checks.same("open", forker.finalOf(0), -1);
        forker.answer(0, 0, 503);
        forker.answer(0, 1, 404);
        checks.same("open still", forker.finalOf(0), -1);
        forker.answer(0, 2, 487);
        checks.same("the least but 487", forker.finalOf(0), 404);
        for (int wrong : NO_FIRST) {
            checks.fails("finalOf", INDEX, () -> forker.finalOf(wrong));
        }
    }

    private void promise12FinalBySorting() {
        CallForker forker = Forkers.withDevices(5, 5, 5, 5);
        checks.fails("finalBySorting before", INDEX, () -> forker.finalBySorting(0));
        forker.call(0);
        checks.fails("open", STATE, () -> forker.finalBySorting(0));
        for (int wrong : NO_FIRST) {
            checks.fails("finalBySorting", INDEX, () -> forker.finalBySorting(wrong));
        }
        int[][] runs = {
            {503, 404, 487, 500, 404}, {404, 503, 300, 487, 300}, {487, 487, 487, 487, 487},
            {599, 598, 597, 596, 596}, {486, 488, 487, 489, 486}, {488, 488, 487, 489, 488},
            {404, 500, 302, 600, 600}, {404, 302, 500, 699, 699}, {404, 302, 500, 200, 200},
        };
        for (int[] run : runs) {
            int call = forker.call(0);
            for (int device = 0; device < 4; device++) {
                forker.answer(call, device, run[device]);
            }
            checks.finals("of ends in any order", forker, call, run[4]);
        }
        checks.same("asked again", forker.finalBySorting(1), 404);
        checks.states("asking changes nothing", forker, 1, "503 404 487 500");
    }

    private void promise13Branches() {
        CallForker forker = Forkers.withDevices(1, 2, 3, 4);
        checks.fails("branches before", INDEX, () -> forker.branches(0));
        forker.call(0);
        checks.same("branches", forker.branches(0), 4);
        forker.register(0, 7, 1, 100, 0);
        checks.same("found when it began", forker.branches(0), 4);
        forker.cancel(0);
        checks.same("there when it has ended", forker.branches(0), 4);
        for (int wrong : NO_FIRST) {
            checks.fails("branches", INDEX, () -> forker.branches(wrong));
        }
        forker.call(1);
        checks.same("no branches", forker.branches(1), 0);
        forker.register(2, 10, 1, 100, 0);
        forker.register(2, 0, 9, 100, 0);
        forker.call(2);
        checks.same("one device once", forker.branches(2), 5);
        checks.states("with the quality that came first", forker, 2, "100 100 100 100 100");
    }

    private void promise14Device() {
        CallForker forker = new CallForker();
        checks.fails("device before", INDEX, () -> forker.device(0, 0));
        forker.register(0, 9, 1, 100, 0);
        forker.register(0, 10, 2, 100, 0);
        forker.register(0, 0, 3, 100, 0);
        forker.call(0);
        checks.same("devices", Forkers.devices(forker, 0), "9 -1 0");
        for (int wrong : NO_FIRST) {
            checks.fails("device call", INDEX, () -> forker.device(wrong, 0));
        }
        for (int wrong : new int[] {-1, 3, 11, 12, Integer.MIN_VALUE, Integer.MAX_VALUE}) {
            checks.fails("device branch", INDEX, () -> forker.device(0, wrong));
        }
        forker.call(1);
        checks.fails("no branches", INDEX, () -> forker.device(1, 0));
    }

    private void promise15State() {
        CallForker forker = Forkers.withDevices(5, 4);
        checks.fails("state before", INDEX, () -> forker.state(0, 0));
        forker.call(0);
        checks.same("tried", forker.state(0, 0), 100);
        checks.same("not started", forker.state(0, 1), 0);
        forker.answer(0, 0, 180);
        checks.same("rings", forker.state(0, 0), 180);
        forker.answer(0, 0, 455);
        checks.same("the code", forker.state(0, 0), 455);
        checks.same("tried then", forker.state(0, 1), 100);
        for (int wrong : NO_FIRST) {
            checks.fails("state call", INDEX, () -> forker.state(wrong, 0));
        }
        for (int wrong : new int[] {-1, 2, 11, 12, Integer.MIN_VALUE, Integer.MAX_VALUE}) {
            checks.fails("state branch", INDEX, () -> forker.state(0, wrong));
        }
    }

    private void promise16Answered() {
        CallForker forker = Forkers.withDevices(5, 4, 5);
        checks.fails("answered before", INDEX, () -> forker.answered(0));
        forker.call(0);
        checks.same("none yet", forker.answered(0), -1);
        forker.answer(0, 2, 180);
        checks.same("one that rings is none", forker.answered(0), -1);
        forker.answer(0, 2, 200);
        checks.same("answered", forker.answered(0), 2);
        forker.answer(0, 0, 200);
        checks.same("not by an answer too much", forker.answered(0), 2);
        for (int wrong : NO_FIRST) {
            checks.fails("answered", INDEX, () -> forker.answered(wrong));
        }
        forker.call(5);
        checks.same("none of nobody", forker.answered(1), -1);
        forker.register(1, 11, 1, 100, 0);
        forker.register(1, 7, 1, 100, 0);
        forker.call(1);
        checks.same("answers", forker.answer(2, 7, 299), 299);
        checks.same("the branch, not the device", forker.answered(2), 1);
    }

    private void promise17HungUp() {
        CallForker forker = Forkers.withDevices(5, 5);
        for (int call = 0; call < 20; call++) {
            forker.call(0);
            forker.answer(call, call % 2, 200);
            checks.same("too much", forker.answer(call, 1 - call % 2, 201), 200);
            checks.same("hung up of 0", forker.hungUp(0), (call + 1) / 2);
            checks.same("hung up of 1", forker.hungUp(1), (call + 2) / 2);
        }
        checks.same("of another", forker.hungUp(9), 0);
        for (int wrong : NO_DEVICES) {
            checks.fails("hungUp", ARGUMENT, () -> forker.hungUp(wrong));
        }
    }
}
