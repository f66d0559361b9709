import java.util.StringJoiner;

/** Forkers to start from, and what forkers tell of themselves. */
final class Forkers {
    private Forkers() {
    }

    /** A forker whose user 0 has the devices 0, 1, .. with these qualities, for long. */
    static CallForker withDevices(int... qualities) {
        CallForker forker = new CallForker();
        for (int device = 0; device < qualities.length; device++) {
            forker.register(0, device, qualities[device], 1000, 0);
        }
        return forker;
    }

    /** The same with a call for user 0, whose number is 0. */
    static CallForker called(int... qualities) {
        CallForker forker = withDevices(qualities);
        forker.call(0);
        return forker;
    }

    /** Registers targets for a user in this order, all with one quality, for long. */
    static void bind(CallForker forker, int user, int quality, int... targets) {
        for (int target : targets) {
            forker.register(user, target, quality, 1000, 0);
        }
    }

    /** The states of a call's branches, in their order. */
    static String states(CallForker forker, int call) {
        StringJoiner told = new StringJoiner(" ");
        for (int branch = 0; branch < forker.branches(call); branch++) {
            told.add(String.valueOf(forker.state(call, branch)));
        }
        return told.toString();
    }

    /** The devices of a call's branches, in their order. */
    static String devices(CallForker forker, int call) {
        StringJoiner told = new StringJoiner(" ");
        for (int branch = 0; branch < forker.branches(call); branch++) {
            told.add(String.valueOf(forker.device(call, branch)));
        }
        return told.toString();
    }

    /** The bindings of a user, in their order. */
    static String row(CallForker forker, int user) {
        StringJoiner told = new StringJoiner(" ");
        for (int place = 0; place < forker.bindings(user); place++) {
            told.add(String.valueOf(forker.binding(user, place)));
        }
        return told.toString();
    }

    /** All that a forker tells without a change. */
    static String all(CallForker forker) {
        StringJoiner told = new StringJoiner("; ");
        told.add(allButHungUp(forker));
        for (int device = 0; device < 10; device++) {
            told.add("hung up " + forker.hungUp(device));
        }
        return told.toString();
    }

    static String allButHungUp(CallForker forker) {
        StringJoiner told = new StringJoiner("; ");
        told.add("time " + forker.time());
        for (int user = 0; user < 6; user++) {
            told.add("user " + user + ": " + row(forker, user));
        }
        for (int call = 0; call < forker.calls(); call++) {
            int one = call;
            told.add("call " + call + ": " + devices(forker, call) + ", " + states(forker, call)
                    + ", final " + forker.finalOf(call) + ", answered " + forker.answered(call)
                    + ", by sorting " + Checks.outcome(() -> forker.finalBySorting(one)));
        }
        return told.toString();
    }
}
