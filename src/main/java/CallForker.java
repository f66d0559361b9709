/** A call proxy with a registrar: calls fork to the devices that users have registered. */
public final class CallForker {
    private static final int USERS = 6;
    private static final int DEVICES = 10;
    private static final int TARGETS = DEVICES + USERS;
    private static final int MOST_QUALITY = 10;
    private static final int MOST_TICKS_OF_A_BINDING = 1000;
    private static final int MOST_SEQUENCE = 10000;
    private static final int MOST_BINDINGS = 6;
    private static final int MOST_CALLS = 20;
    private static final int MOST_BRANCHES = 12;
    private static final int MOST_USERS_BEHIND = 2;
    private static final int MOST_TICKS_OF_A_PASS = 100;
    private static final int RING_TIME = 10;
    private static final int NONE = -1;

    private static final int NOT_STARTED = 0;
    private static final int TRIED = 100;
    private static final int RINGS = 180;
    private static final int LEAST_END = 200;
    private static final int LEAST_REFUSAL = 300;
    private static final int TIMED_OUT = 408;
    private static final int NOBODY_THERE = 480;
    private static final int GOES_ROUND = 482;
    private static final int TOO_FAR = 483;
    private static final int ENDED_BY_OTHERS = 487;
    private static final int LEAST_REFUSAL_FOR_ALL = 600;
    private static final int MOST_CODE = 699;

    private final BindingRow[] bindingRows = new BindingRow[USERS];
    private final Call[] callRow = new Call[MOST_CALLS];
    private final int[] hungUpCounts = new int[DEVICES];
    private final int[] way = new int[1 + MOST_USERS_BEHIND];
    private final int[] sortingRow = new int[MOST_BRANCHES];
    private int callCount = 0;
    private int now = 0;

    public CallForker() {
        for (int user = 0; user < USERS; user++) {
            bindingRows[user] = new BindingRow();
        }
        for (int call = 0; call < MOST_CALLS; call++) {
            callRow[call] = new Call();
        }
    }

    // ---- the registrar

    public int register(int user, int target, int quality, int ticks, int sequence)
            throws IllegalArgumentException, IllegalStateException {
        BindingRow row = rowOf(user);
        if (isOutside(target, TARGETS - 1) || isOutside(quality, MOST_QUALITY)) {
            throw new IllegalArgumentException("no such target or quality");
        }
        if (isOutside(ticks, MOST_TICKS_OF_A_BINDING) || isOutside(sequence, MOST_SEQUENCE)) {
            throw new IllegalArgumentException("no such ticks or sequence");
        }
        if (sequence <= row.sequences[target]) {
            throw new IllegalStateException("the sequence number is not greater");
        }
        if (ticks != 0 && row.countOthers(target, now) >= MOST_BINDINGS) {
            throw new IllegalStateException("too many bindings");
        }
        row.put(target, quality, now + ticks, sequence);
        return row.count(now);
    }

    public int bindings(int user) throws IllegalArgumentException {
        return rowOf(user).count(now);
    }

    public int binding(int user, int place) throws IllegalArgumentException, IndexOutOfBoundsException {
        BindingRow row = rowOf(user);
        int target = row.targetAt(place, now);
        if (target == NONE) {
            throw new IndexOutOfBoundsException("no such binding");
        }
        return 100 * target + row.qualities[target];
    }

    // ---- calls

    public int call(int user) throws IllegalArgumentException, IllegalStateException {
        if (isOutside(user, USERS - 1)) {
            throw new IllegalArgumentException("no such user");
        }
        if (callCount >= MOST_CALLS) {
            throw new IllegalStateException("too many calls");
        }
        Call begun = callRow[callCount];
        followUser(begun, user, NONE, 0);
        begun.begin(now);
        callCount++;
        return callCount - 1;
    }

    public int answer(int call, int device, int code)
            throws IndexOutOfBoundsException, IllegalArgumentException, IllegalStateException {
        Call asked = callAt(call);
        if (isOutside(device, DEVICES - 1) || isNoAnswer(code)) {
            throw new IllegalArgumentException("no such device or code");
        }
        int branch = asked.branchOf(device);
        if (branch == NONE) {
            throw new IllegalStateException("the call has no branch for the device");
        }
        if (!asked.isStarted(branch)) {
            throw new IllegalStateException("the group of the branch is not started");
        }
        if (!asked.isEnded(branch)) {
            asked.takeAnswer(branch, code, now);
        } else if (asked.isTooMuch(branch, code)) {
            asked.hungUpAt[branch] = true;
            hungUpCounts[device]++;
        } else {
            throw new IllegalStateException("the branch has ended");
        }
        return asked.finalCode;
    }

    public int cancel(int call) throws IndexOutOfBoundsException, IllegalStateException {
        Call asked = callAt(call);
        if (asked.finalCode != NONE) {
            throw new IllegalStateException("the call has ended");
        }
        return asked.cancelAll();
    }

    public int pass(int ticks) throws IllegalArgumentException {
        if (ticks < 1 || ticks > MOST_TICKS_OF_A_PASS) {
            throw new IllegalArgumentException("no such ticks");
        }
        int ended = 0;
        for (int tick = 0; tick < ticks; tick++) {
            now++;
            ended += lookAtCalls();
        }
        return ended;
    }

    public int time() {
        return now;
    }

    // ---- what is

    public int calls() {
        return callCount;
    }

    public int finalOf(int call) throws IndexOutOfBoundsException {
        return callAt(call).finalCode;
    }

    public int finalBySorting(int call) throws IndexOutOfBoundsException, IllegalStateException {
        Call asked = callAt(call);
        if (asked.finalCode == NONE) {
            throw new IllegalStateException("the call has not ended");
        }
        return asked.finalFromSorted(sortingRow);
    }

    public int branches(int call) throws IndexOutOfBoundsException {
        return callAt(call).branchCount;
    }

    public int device(int call, int branch) throws IndexOutOfBoundsException {
        return callWith(call, branch).devices[branch];
    }

    public int state(int call, int branch) throws IndexOutOfBoundsException {
        return callWith(call, branch).states[branch];
    }

    public int answered(int call) throws IndexOutOfBoundsException {
        return callAt(call).answeredBranch;
    }

    public int hungUp(int device) throws IllegalArgumentException {
        if (isOutside(device, DEVICES - 1)) {
            throw new IllegalArgumentException("no such device");
        }
        return hungUpCounts[device];
    }

    // ---- looking arguments up

    private static boolean isOutside(int value, int most) {
        return value < 0 || value > most;
    }

    private static boolean isNoAnswer(int code) {
        return code != RINGS && (code < LEAST_END || code > MOST_CODE);
    }

    private BindingRow rowOf(int user) throws IllegalArgumentException {
        if (isOutside(user, USERS - 1)) {
            throw new IllegalArgumentException("no such user");
        }
        return bindingRows[user];
    }

    private Call callAt(int call) throws IndexOutOfBoundsException {
        if (isOutside(call, callCount - 1)) {
            throw new IndexOutOfBoundsException("no such call");
        }
        return callRow[call];
    }

    private Call callWith(int call, int branch) throws IndexOutOfBoundsException {
        Call asked = callAt(call);
        if (isOutside(branch, asked.branchCount - 1)) {
            throw new IndexOutOfBoundsException("no such branch");
        }
        return asked;
    }

    // ---- finding branches

    /** Goes through a user's bindings; behind is how many users the way has before this one. */
    private void followUser(Call call, int user, int qualityOfWay, int behind) {
        if (behind >= way.length) {
            return;
        }
        way[behind] = user;
        BindingRow row = bindingRows[user];
        for (int place = 0; place < row.orderCount; place++) {
            int target = row.order[place];
            if (!row.isThere(target, now)) {
                continue;
            }
            // Only the first binding of the way tells the quality of all that is found by it.
            int quality = behind == 0 ? row.qualities[target] : qualityOfWay;
            if (target < DEVICES) {
                call.addDevice(target, quality);
            } else {
                comeToUser(call, target - DEVICES, quality, behind + 1);
            }
        }
    }

    private void comeToUser(Call call, int user, int quality, int behind) {
        if (isOnWay(user, behind)) {
            call.addEnded(quality, GOES_ROUND);
        } else if (behind > MOST_USERS_BEHIND) {
            call.addEnded(quality, TOO_FAR);
        } else {
            followUser(call, user, quality, behind);
        }
    }

    private boolean isOnWay(int user, int length) {
        for (int place = 0; place < length && place < way.length; place++) {
            if (way[place] == user) {
                return true;
            }
        }
        return false;
    }

    private int lookAtCalls() {
        int ended = 0;
        for (int call = 0; call < callCount; call++) {
            if (callRow[call].endsWithTick(now)) {
                ended++;
            }
        }
        return ended;
    }

    /** One user's bindings, each kept under its target, there or not. */
    private static final class BindingRow {
        private final int[] qualities = new int[TARGETS];
        private final int[] expiries = new int[TARGETS];
        private final int[] sequences = new int[TARGETS];
        private final int[] order = new int[TARGETS];
        private int orderCount = 0;

        BindingRow() {
            for (int target = 0; target < TARGETS; target++) {
                sequences[target] = NONE;
            }
        }

        void put(int target, int quality, int expiry, int sequence) {
            if (sequences[target] == NONE && orderCount < TARGETS) {
                order[orderCount] = target;
                orderCount++;
            }
            qualities[target] = quality;
            expiries[target] = expiry;
            sequences[target] = sequence;
        }

        boolean isThere(int target, int now) {
            return sequences[target] != NONE && now < expiries[target];
        }

        int count(int now) {
            return countOthers(NONE, now);
        }

        int countOthers(int left, int now) {
            int count = 0;
            for (int target = 0; target < TARGETS; target++) {
                if (target != left && isThere(target, now)) {
                    count++;
                }
            }
            return count;
        }

        /** The target of the binding at a place among those that are there, or NONE. */
        int targetAt(int wanted, int now) {
            int found = 0;
            for (int place = 0; place < orderCount; place++) {
                int target = order[place];
                if (isThere(target, now)) {
                    if (found == wanted) {
                        return target;
                    }
                    found++;
                }
            }
            return NONE;
        }
    }

    /** A call with its branches, each kept under its number. */
    private static final class Call {
        private final int[] devices = new int[MOST_BRANCHES];
        private final int[] qualities = new int[MOST_BRANCHES];
        private final int[] states = new int[MOST_BRANCHES];
        private final boolean[] hungUpAt = new boolean[MOST_BRANCHES];
        private int branchCount = 0;
        private int startedQuality = MOST_QUALITY + 1;
        private int startedAt = 0;
        private int answeredBranch = NONE;
        private int finalCode = NONE;
        private boolean cancelled = false;

        void addDevice(int device, int quality) {
            if (branchOf(device) == NONE) {
                add(device, quality, NOT_STARTED);
            }
        }

        void addEnded(int quality, int code) {
            add(NONE, quality, code);
        }

        private void add(int device, int quality, int first) {
            if (branchCount < MOST_BRANCHES) {
                devices[branchCount] = device;
                qualities[branchCount] = quality;
                states[branchCount] = first;
                branchCount++;
            }
        }

        int branchOf(int device) {
            for (int branch = 0; branch < branchCount; branch++) {
                if (devices[branch] == device) {
                    return branch;
                }
            }
            return NONE;
        }

        boolean isStarted(int branch) {
            return qualities[branch] >= startedQuality;
        }

        boolean isEnded(int branch) {
            return states[branch] >= LEAST_END;
        }

        boolean isTooMuch(int branch, int code) {
            boolean answers = code >= LEAST_END && code < LEAST_REFUSAL;
            boolean late = states[branch] == ENDED_BY_OTHERS || states[branch] == TIMED_OUT;
            return answers && late && !hungUpAt[branch];
        }

        void begin(int now) {
            if (branchCount == 0) {
                finalCode = NOBODY_THERE;
            } else {
                goOn(now);
            }
        }

        /** Starts groups until there is a branch to wait for; if none is left, the call ends. */
        private void goOn(int now) {
            for (int quality = startedQuality - 1; quality >= 0 && !isWaiting(); quality--) {
                startGroup(quality, now);
            }
            if (!isWaiting()) {
                finalCode = bestEnd();
            }
        }

        private boolean isWaiting() {
            for (int branch = 0; branch < branchCount; branch++) {
                if (isStarted(branch) && !isEnded(branch)) {
                    return true;
                }
            }
            return false;
        }

        private void startGroup(int quality, int now) {
            startedQuality = quality;
            startedAt = now;
            for (int branch = 0; branch < branchCount; branch++) {
                if (qualities[branch] == quality && !isEnded(branch)) {
                    states[branch] = TRIED;
                }
            }
        }

        void takeAnswer(int branch, int code, int now) {
            states[branch] = code;
            if (code == RINGS) {
                return;
            }
            if (code < LEAST_REFUSAL) {
                answeredBranch = branch;
                endOpen();
                finalCode = code;
            } else if (code >= LEAST_REFUSAL_FOR_ALL) {
                endOpen();
                finalCode = bestEnd();
            } else {
                goOn(now);
            }
        }

        int cancelAll() {
            int ended = endOpen();
            cancelled = true;
            finalCode = ENDED_BY_OTHERS;
            return ended;
        }

        /** Ends all branches that have not ended, started or not, and tells how many. */
        private int endOpen() {
            int ended = 0;
            for (int branch = 0; branch < branchCount; branch++) {
                if (!isEnded(branch)) {
                    states[branch] = ENDED_BY_OTHERS;
                    ended++;
                }
            }
            return ended;
        }

        boolean endsWithTick(int now) {
            // Only the group started last can still ring: the ones before it had ended by then.
            if (finalCode != NONE || now - startedAt < RING_TIME) {
                return false;
            }
            for (int branch = 0; branch < branchCount; branch++) {
                if (isStarted(branch) && !isEnded(branch)) {
                    states[branch] = TIMED_OUT;
                }
            }
            goOn(now);
            return finalCode != NONE;
        }

        private int bestEnd() {
            int least = NONE;
            int greatest = NONE;
            for (int branch = 0; branch < branchCount; branch++) {
                int end = states[branch];
                if (end != ENDED_BY_OTHERS) {
                    least = least == NONE ? end : Math.min(least, end);
                    greatest = Math.max(greatest, end);
                }
            }
            if (greatest >= LEAST_REFUSAL_FOR_ALL) {
                return greatest;
            }
            return least == NONE ? ENDED_BY_OTHERS : least;
        }

        /** The final answer of an ended call anew, from its ends in ascending order. */
        int finalFromSorted(int[] row) {
            if (branchCount == 0) {
                return NOBODY_THERE;
            }
            int length = sortEnds(row);
            if (cancelled || length == 0) {
                return ENDED_BY_OTHERS;
            }
            // An answer is less than every other end, so it comes first of itself.
            return row[length - 1] >= LEAST_REFUSAL_FOR_ALL ? row[length - 1] : row[0];
        }

        /** Puts the ends but 487 into the row, ascending, and tells how many there are. */
        private int sortEnds(int[] row) {
            int length = 0;
            for (int branch = 0; branch < branchCount && length < row.length; branch++) {
                if (states[branch] != ENDED_BY_OTHERS) {
                    insert(row, length, states[branch]);
                    length++;
                }
            }
            return length;
        }

        private static void insert(int[] row, int length, int end) {
            int place = length;
            while (place > 0 && row[place - 1] > end) {
                row[place] = row[place - 1];
                place--;
            }
            row[place] = end;
        }
    }
}
