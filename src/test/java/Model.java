import java.util.ArrayList;
import java.util.Comparator;
import java.util.LinkedHashMap;
import java.util.List;
import java.util.Map;
import java.util.OptionalInt;
import java.util.stream.IntStream;

/** The document told a second time, as slowly and literally as it goes, to compare with. */
final class Model {
    private static final class Binding {
        int quality;
        int expires;
        int sequence;
    }

    private static final class Branch {
        int device;
        int quality;
        int state;
        int startedAt = -1;
        boolean hungUp;

        boolean open() {
            return state == 0 || state == 100 || state == 180;
        }
    }

    private static final class Told {
        final List<Branch> branches = new ArrayList<>();
        int end = -1;
        int answered = -1;
    }

    private final List<Map<Integer, Binding>> users = new ArrayList<>();
    private final List<Told> calls = new ArrayList<>();
    private final int[] hungUp = new int[10];
    private int time = 0;

    Model() {
        for (int user = 0; user < 6; user++) {
            users.add(new LinkedHashMap<>());
        }
    }

    private static void need(boolean holds, RuntimeException otherwise) {
        if (!holds) {
            throw otherwise;
        }
    }

    private static void within(int value, int least, int most) {
        need(least <= value && value <= most, new IllegalArgumentException());
    }

    private List<Integer> there(int user) {
        return users.get(user).entrySet().stream()
                .filter(entry -> time < entry.getValue().expires).map(Map.Entry::getKey).toList();
    }

    private Told told(int call) {
        need(call >= 0 && call < calls.size(), new IndexOutOfBoundsException());
        return calls.get(call);
    }

    private Branch branch(int call, int branch) {
        List<Branch> branches = told(call).branches;
        need(branch >= 0 && branch < branches.size(), new IndexOutOfBoundsException());
        return branches.get(branch);
    }

    int register(int user, int target, int quality, int ticks, int sequence) {
        within(user, 0, 5);
        within(target, 0, 15);
        within(quality, 0, 10);
        within(ticks, 0, 1000);
        within(sequence, 0, 10000);
        Binding old = users.get(user).get(target);
        need(old == null || sequence > old.sequence, new IllegalStateException());
        long others = there(user).stream().filter(other -> other != target).count();
        need(others < 6 || ticks == 0, new IllegalStateException());
        Binding made = users.get(user).computeIfAbsent(target, key -> new Binding());
        made.quality = quality;
        made.expires = time + ticks;
        made.sequence = sequence;
        return there(user).size();
    }

    int bindings(int user) {
        within(user, 0, 5);
        return there(user).size();
    }

    int binding(int user, int place) {
        within(user, 0, 5);
        List<Integer> targets = there(user);
        need(place >= 0 && place < targets.size(), new IndexOutOfBoundsException());
        int target = targets.get(place);
        return target * 100 + users.get(user).get(target).quality;
    }

    int call(int user) {
        within(user, 0, 5);
        need(calls.size() < 20, new IllegalStateException());
        Told call = new Told();
        for (int target : there(user)) {
            find(call, List.of(user), target, users.get(user).get(target).quality);
        }
        while (call.branches.size() > 12) {
            call.branches.remove(12);
        }
        calls.add(call);
        if (call.branches.isEmpty()) {
            call.end = 480;
        }
        settle(call);
        return calls.size() - 1;
    }

    private void find(Told call, List<Integer> way, int target, int quality) {
        int user = target - 10;
        if (target < 10) {
            if (call.branches.stream().noneMatch(branch -> branch.device == target)) {
                make(call, target, quality, 0);
            }
        } else if (way.contains(user)) {
            make(call, -1, quality, 482);
        } else if (way.size() == 3) {
            make(call, -1, quality, 483);
        } else {
            List<Integer> longer = new ArrayList<>(way);
            longer.add(user);
            for (int next : there(user)) {
                find(call, longer, next, quality);
            }
        }
    }

    private static void make(Told call, int device, int quality, int state) {
        Branch made = new Branch();
        made.device = device;
        made.quality = quality;
        made.state = state;
        call.branches.add(made);
    }

    /** Starts what is to be started, and ends the call if nothing is. */
    private void settle(Told call) {
        while (call.end == -1 && call.branches.stream().noneMatch(branch -> branch.startedAt >= 0 && branch.open())) {
            OptionalInt next = call.branches.stream().filter(branch -> branch.startedAt < 0)
                    .mapToInt(branch -> branch.quality).max();
            if (next.isEmpty()) {
                call.end = best(call);
                return;
            }
            for (Branch branch : call.branches) {
                if (branch.quality == next.getAsInt()) {
                    branch.startedAt = time;
                    branch.state = branch.open() ? 100 : branch.state;
                }
            }
        }
    }

    private static int best(Told call) {
        return call.branches.stream().map(branch -> branch.state).filter(state -> state != 487)
                .min(Comparator.comparingInt(state -> state >= 600 ? -state : state)).orElse(487);
    }

    private static int endAll(Told call) {
        int ended = 0;
        for (Branch branch : call.branches) {
            if (branch.open()) {
                branch.state = 487;
                ended++;
            }
        }
        return ended;
    }

    int answer(int number, int device, int code) {
        Told call = told(number);
        within(device, 0, 9);
        need(code == 180 || 200 <= code && code <= 699, new IllegalArgumentException());
        int place = IntStream.range(0, call.branches.size())
                .filter(one -> call.branches.get(one).device == device).findFirst().orElse(-1);
        need(place >= 0, new IllegalStateException());
        Branch branch = call.branches.get(place);
        need(branch.startedAt >= 0, new IllegalStateException());
        if (!branch.open()) {
            need(code >= 200 && code < 300, new IllegalStateException());
            need(branch.state == 487 || branch.state == 408, new IllegalStateException());
            need(!branch.hungUp, new IllegalStateException());
            branch.hungUp = true;
            hungUp[device]++;
            return call.end;
        }
        branch.state = code;
        if (code >= 200 && code < 300) {
            endAll(call);
            call.end = code;
            call.answered = place;
        } else if (code >= 600) {
            endAll(call);
            call.end = best(call);
        }
        settle(call);
        return call.end;
    }

    int cancel(int number) {
        Told call = told(number);
        need(call.end == -1, new IllegalStateException());
        call.end = 487;
        return endAll(call);
    }

    int pass(int ticks) {
        within(ticks, 1, 100);
        long before = calls.stream().filter(call -> call.end != -1).count();
        for (int tick = 0; tick < ticks; tick++) {
            time++;
            for (Told call : calls) {
                for (Branch branch : call.branches) {
                    if (branch.startedAt >= 0 && branch.open() && time == branch.startedAt + 10) {
                        branch.state = 408;
                    }
                }
                settle(call);
            }
        }
        return (int) (calls.stream().filter(call -> call.end != -1).count() - before);
    }

    int time() {
        return time;
    }

    int calls() {
        return calls.size();
    }

    int finalOf(int call) {
        return told(call).end;
    }

    int finalBySorting(int call) {
        need(told(call).end != -1, new IllegalStateException());
        return told(call).end;
    }

    int branches(int call) {
        return told(call).branches.size();
    }

    int device(int call, int branch) {
        return branch(call, branch).device;
    }

    int state(int call, int branch) {
        return branch(call, branch).state;
    }

    int answered(int call) {
        return told(call).answered;
    }

    int hungUp(int device) {
        within(device, 0, 9);
        return hungUp[device];
    }
}
