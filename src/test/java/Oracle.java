import java.util.ArrayDeque;
import java.util.ArrayList;
import java.util.Comparator;
import java.util.Deque;
import java.util.HashSet;
import java.util.List;
import java.util.Set;

/**
 * The document once more, in its plainest and slowest form: nothing is summed up ahead, every
 * what-if works on a copy, every search tries all. RandomRunsTest holds HostPacker against it.
 */
final class Oracle {
    static final int BAD = -1, NOT = -2, NONE = -3, GREAT = -4;

    private static final class Machine {
        int[] amounts;
        int hall;
        int taints;
        boolean up = true;

        Machine copy() {
            Machine other = new Machine();
            other.amounts = amounts;
            other.hall = hall;
            other.taints = taints;
            other.up = up;
            return other;
        }
    }

    private static final class Task {
        int kind;
        int[] asks;
        int priority;
        int group;
        int tolerated;
        int other;
        int state;
        int on = -1;
        int turn;
        int target = -1;

        Task copy() {
            Task copy = new Task();
            copy.kind = kind;
            copy.asks = asks.clone();
            copy.priority = priority;
            copy.group = group;
            copy.tolerated = tolerated;
            copy.other = other;
            copy.state = state;
            copy.on = on;
            copy.turn = turn;
            copy.target = target;
            return copy;
        }

        void leave(int to) {
            state = to;
            on = -1;
            turn = 0;
        }
    }

    private static final class World {
        final List<Machine> machines = new ArrayList<>();
        final List<Task> tasks = new ArrayList<>();
        int[] w = {1, 10, 5};
        int turns;

        World copy() {
            World copy = new World();
            for (Machine m : machines) {
                copy.machines.add(m.copy());
            }
            for (Task t : tasks) {
                copy.tasks.add(t.copy());
            }
            copy.w = w.clone();
            copy.turns = turns;
            return copy;
        }

        int left(int host, int i) {
            int left = machines.get(host).amounts[i];
            for (Task t : tasks) {
                if (t.state == 1 && t.on == host) {
                    left -= t.asks[i];
                }
            }
            return left;
        }

        int alike(Task job, int hall) {
            int many = 0;
            for (Task t : tasks) {
                if (t.state == 1 && t.kind == job.kind && t.group == job.group
                        && machines.get(t.on).hall == hall) {
                    many++;
                }
            }
            return many;
        }

        int others(Task job, int host) {
            int many = 0;
            for (Task t : tasks) {
                boolean near = t.state == 1 && (job.kind == 5
                        ? machines.get(t.on).hall == machines.get(host).hall : t.on == host);
                if (near && t.group == job.other) {
                    many++;
                }
            }
            return many;
        }

        int why(int number, int host) {
            Task job = tasks.get(number);
            Machine m = machines.get(host);
            if (!m.up) {
                return 1;
            }
            for (int bit = 1; bit < 256; bit *= 2) {
                if ((m.taints & bit) != 0 && (job.tolerated & bit) == 0) {
                    return 2;
                }
            }
            for (int i = 0; i < 3; i++) {
                if (job.asks[i] > left(host, i)) {
                    return 3 + i;
                }
            }
            if (job.kind == 1 || job.kind == 2) {
                for (Machine some : machines) {
                    if (some.up && alike(job, m.hall) + 1 > alike(job, some.hall) + 1) {
                        return 6;
                    }
                }
            }
            if (job.kind == 4 && others(job, host) > 0 || job.kind == 5 && others(job, host) == 0) {
                return 7;
            }
            for (Task t : tasks) {
                if (t.state == 1 && t.on == host && t.kind == 4 && t.other == job.group) {
                    return 8;
                }
            }
            return 0;
        }

        int points(int number, int host) {
            Task job = tasks.get(number);
            int room = 0;
            for (int i = 0; i < 3; i++) {
                room += left(host, i) - job.asks[i];
            }
            int own = 0;
            for (Task t : tasks) {
                own += t.state == 1 && t.on == host && t.group == job.group ? 1 : 0;
            }
            int points = w[0] * room - w[1] * own;
            return job.kind >= 4 ? points + w[2] * others(job, host) : points;
        }

        int best(int number) {
            int best = -1;
            for (int host = 0; host < machines.size(); host++) {
                if (why(number, host) == 0
                        && (best < 0 || points(number, host) > points(number, best))) {
                    best = host;
                }
            }
            return best;
        }

        void seat(int number, int host) {
            Task job = tasks.get(number);
            job.state = 1;
            job.on = host;
            job.turn = ++turns;
        }

        List<Integer> on(int host, boolean fixedToo) {
            List<Integer> on = new ArrayList<>();
            for (int j = 0; j < tasks.size(); j++) {
                Task t = tasks.get(j);
                if (t.state == 1 && t.on == host && (fixedToo || t.kind != 3)) {
                    on.add(j);
                }
            }
            return on;
        }

        /** Those that must go from a host, or null where all do not do. */
        List<Integer> mustGo(int number, int host) {
            World then = copy();
            List<Integer> may = on(host, false);
            may.removeIf(j -> tasks.get(j).priority >= tasks.get(number).priority);
            may.sort(Comparator.<Integer>comparingInt(j -> tasks.get(j).priority)
                    .thenComparingInt(j -> -tasks.get(j).turn));
            List<Integer> go = new ArrayList<>();
            for (int j : may) {
                then.tasks.get(j).leave(0);
                go.add(j);
                if (then.why(number, host) == 0) {
                    return go;
                }
            }
            return null;
        }

        int fall(int host) {
            machines.get(host).up = false;
            int many = 0;
            for (int j : on(host, true)) {
                boolean fixed = tasks.get(j).kind == 3;
                tasks.get(j).leave(fixed ? 2 : 0);
                many += fixed ? 0 : 1;
            }
            return many;
        }

        boolean canPlaceAll(List<Integer> waiting) {
            if (waiting.isEmpty()) {
                return true;
            }
            for (int j : waiting) {
                for (int host = 0; host < machines.size(); host++) {
                    if (why(j, host) == 0) {
                        World then = copy();
                        then.seat(j, host);
                        List<Integer> rest = new ArrayList<>(waiting);
                        rest.remove(Integer.valueOf(j));
                        if (then.canPlaceAll(rest)) {
                            return true;
                        }
                    }
                }
            }
            return false;
        }

        boolean survives(int host) {
            World then = copy();
            List<Integer> waiting = on(host, false);
            then.fall(host);
            return then.canPlaceAll(waiting);
        }

        List<Integer> targeted() {
            List<Integer> targeted = new ArrayList<>();
            for (int j = 0; j < tasks.size(); j++) {
                if (tasks.get(j).target >= 0) {
                    targeted.add(j);
                }
            }
            return targeted;
        }

        /** Moves to the targets in just so many steps, the first of such ways, or null. */
        List<int[]> moves(int many, Set<String> hopeless) {
            List<Integer> crew = targeted();
            StringBuilder key = new StringBuilder().append(many);
            boolean there = true;
            for (int j : crew) {
                there &= tasks.get(j).on == tasks.get(j).target;
                key.append(',').append(tasks.get(j).on);
            }
            if (many == 0) {
                return there ? new ArrayList<>() : null;
            }
            if (hopeless.contains(key.toString())) {
                return null;
            }
            for (int j : crew) {
                World lifted = copy();
                lifted.tasks.get(j).leave(0);
                for (int host = 0; host < machines.size(); host++) {
                    if (lifted.why(j, host) == 0) {
                        World then = lifted.copy();
                        then.seat(j, host);
                        List<int[]> rest = then.moves(many - 1, hopeless);
                        if (rest != null) {
                            rest.add(0, new int[] {j, host});
                            return rest;
                        }
                    }
                }
            }
            hopeless.add(key.toString());
            return null;
        }

        int fewest(List<Integer> rest, Set<Integer> used) {
            if (rest.isEmpty()) {
                return used.size();
            }
            int fewest = NONE;
            int j = rest.get(0);
            for (int host = 0; host < machines.size(); host++) {
                if (why(j, host) == 0) {
                    seat(j, host);
                    Set<Integer> then = new HashSet<>(used);
                    then.add(host);
                    int some = fewest(rest.subList(1, rest.size()), then);
                    fewest = some >= 0 && (fewest < 0 || some < fewest) ? some : fewest;
                    tasks.get(j).leave(0);
                }
            }
            return fewest;
        }
    }

    private World now = new World();
    private final Deque<World> past = new ArrayDeque<>();
    private int gone;
    private List<int[]> steps = new ArrayList<>();

    private void keep() {
        past.addLast(now.copy());
        if (past.size() > 30) {
            past.removeFirst();
        }
    }

    private boolean isJob(int job) {
        return job >= 0 && job < now.tasks.size();
    }

    private boolean isHost(int host) {
        return host >= 0 && host < now.machines.size();
    }

    private static boolean in(int number, int least, int most) {
        return least <= number && number <= most;
    }

    private static boolean amounts(int a, int b, int c) {
        return in(a, 0, 1000) && in(b, 0, 1000) && in(c, 0, 1000);
    }

    int host(int a, int b, int c, int hall, int taints) {
        if (!amounts(a, b, c) || !in(hall, 0, 4) || !in(taints, 0, 255)) {
            return BAD;
        }
        if (now.machines.size() == 10) {
            return NOT;
        }
        keep();
        Machine m = new Machine();
        m.amounts = new int[] {a, b, c};
        m.hall = hall;
        m.taints = taints;
        now.machines.add(m);
        return now.machines.size() - 1;
    }

    int job(int kind, int a, int b, int c, int priority, int group, int tolerated, int other) {
        if (!in(kind, 0, 5) || !amounts(a, b, c) || !in(priority, 0, 9) || !in(group, 0, 7)
                || !in(tolerated, 0, 255) || !in(other, 0, 7)) {
            return BAD;
        }
        if (now.tasks.size() == 24) {
            return NOT;
        }
        keep();
        Task t = new Task();
        t.kind = kind;
        t.asks = new int[] {a, b, c};
        t.priority = priority;
        t.group = group;
        t.tolerated = tolerated;
        t.other = other;
        now.tasks.add(t);
        return now.tasks.size() - 1;
    }

    int weight(int which, int w) {
        if (!in(which, 0, 2) || !in(w, -100, 100)) {
            return -1001;
        }
        keep();
        int was = now.w[which];
        now.w[which] = w;
        return was;
    }

    int why(int job, int host) {
        if (!isJob(job) || !isHost(host)) {
            return BAD;
        }
        return now.tasks.get(job).state == 0 ? now.why(job, host) : NOT;
    }

    int points(int job, int host) {
        if (!isJob(job) || !isHost(host)) {
            return -1000001;
        }
        return now.tasks.get(job).state == 0 ? now.points(job, host) : -1000002;
    }

    int left(int host, int i) {
        return isHost(host) && in(i, 0, 2) ? now.left(host, i) : BAD;
    }

    int told(int job, int what) {
        if (!isJob(job) || !in(what, 0, 5)) {
            return BAD;
        }
        Task t = now.tasks.get(job);
        int[] all = {t.state, t.state == 1 ? t.on : NONE, t.state == 1 ? t.turn : NONE, t.kind,
            t.priority, t.group};
        return all[what];
    }

    int place(int job) {
        if (!isJob(job)) {
            return BAD;
        }
        Task t = now.tasks.get(job);
        if (t.state != 0 || t.kind == 2) {
            return NOT;
        }
        int host = now.best(job);
        List<Integer> go = new ArrayList<>();
        for (int h = 0; host < 0 && t.kind != 3 && h < now.machines.size(); h++) {
            go = null;
            int best = -1;
            for (int some = 0; some < now.machines.size(); some++) {
                List<Integer> one = now.mustGo(job, some);
                if (one != null && (go == null || isLess(one, go))) {
                    go = one;
                    best = some;
                }
            }
            host = best;
            break;
        }
        if (host < 0) {
            return NONE;
        }
        keep();
        for (int j : go) {
            now.tasks.get(j).leave(0);
        }
        now.seat(job, host);
        gone = go.size();
        return host;
    }

    private boolean isLess(List<Integer> one, List<Integer> another) {
        int ones = one.stream().mapToInt(j -> now.tasks.get(j).priority).max().orElse(0);
        int others = another.stream().mapToInt(j -> now.tasks.get(j).priority).max().orElse(0);
        return ones < others || ones == others && one.size() < another.size();
    }

    int gone() {
        return gone;
    }

    int gang(int group) {
        if (!in(group, 0, 7)) {
            return BAD;
        }
        World then = now.copy();
        int many = 0;
        boolean all = true;
        for (int j = 0; j < then.tasks.size(); j++) {
            Task t = then.tasks.get(j);
            if (t.kind == 2 && t.group == group && t.state == 0) {
                many++;
                int host = then.best(j);
                all &= host >= 0;
                if (host >= 0) {
                    then.seat(j, host);
                }
            }
        }
        if (many == 0) {
            return NOT;
        }
        if (!all) {
            return NONE;
        }
        keep();
        now = then;
        return many;
    }

    int end(int job) {
        if (!isJob(job)) {
            return BAD;
        }
        if (now.tasks.get(job).state == 2) {
            return NOT;
        }
        keep();
        now.tasks.get(job).leave(2);
        return 1;
    }

    int fall(int host) {
        if (!isHost(host)) {
            return BAD;
        }
        if (!now.machines.get(host).up) {
            return NOT;
        }
        keep();
        return now.fall(host);
    }

    int rise(int host) {
        if (!isHost(host)) {
            return BAD;
        }
        if (now.machines.get(host).up) {
            return NOT;
        }
        keep();
        now.machines.get(host).up = true;
        return 1;
    }

    int move(int job, int host) {
        if (!isJob(job) || !isHost(host)) {
            return BAD;
        }
        Task t = now.tasks.get(job);
        if (t.state != 1 || t.kind == 3 || t.on == host) {
            return NOT;
        }
        World then = now.copy();
        then.tasks.get(job).leave(0);
        if (then.why(job, host) != 0) {
            return NONE;
        }
        keep();
        int was = t.on;
        now = then;
        now.seat(job, host);
        return was;
    }

    int safe() {
        int worst = worst();
        return worst == GREAT ? GREAT : worst == NONE ? 1 : 0;
    }

    int worst() {
        for (int host = 0; host < now.machines.size(); host++) {
            if (now.on(host, false).size() > 4) {
                return GREAT;
            }
        }
        for (int host = 0; host < now.machines.size(); host++) {
            if (now.machines.get(host).up && !now.survives(host)) {
                return host;
            }
        }
        return NONE;
    }

    int target(int job, int host) {
        if (!isJob(job) || host != -1 && !isHost(host)) {
            return BAD;
        }
        keep();
        now.tasks.get(job).target = host;
        return now.targeted().size();
    }

    int plan() {
        List<Integer> crew = now.targeted();
        for (int j : crew) {
            if (now.tasks.get(j).state != 1 || now.tasks.get(j).kind == 3) {
                return NOT;
            }
        }
        if (crew.size() > 4) {
            return GREAT;
        }
        Set<String> hopeless = new HashSet<>();
        for (int many = 0; many <= 8; many++) {
            List<int[]> moves = now.moves(many, hopeless);
            if (moves != null) {
                steps = moves;
                return many;
            }
        }
        return NONE;
    }

    int step(int i, int what) {
        return in(i, 0, steps.size() - 1) && in(what, 0, 1) ? steps.get(i)[what] : BAD;
    }

    int fewest() {
        List<Integer> all = new ArrayList<>();
        World then = now.copy();
        for (int j = 0; j < now.tasks.size(); j++) {
            if (now.tasks.get(j).state == 1 && now.tasks.get(j).kind != 3) {
                all.add(j);
                then.tasks.get(j).leave(0);
            }
        }
        return all.size() > 5 ? GREAT : then.fewest(all, new HashSet<>());
    }

    int would(int job, int what) {
        if (!isJob(job) || !in(what, 0, 3)) {
            return BAD;
        }
        if (now.tasks.get(job).state != 0 || now.best(job) >= 0) {
            return NOT;
        }
        int[] change = change(job);
        return change == null ? NONE : change[what];
    }

    private int[] change(int job) {
        for (int bit = 0; bit < 8; bit++) {
            World then = now.copy();
            then.tasks.get(job).tolerated |= 1 << bit;
            for (int host = 0; host < now.machines.size(); host++) {
                if (then.why(job, host) == 0) {
                    return new int[] {1, bit, host, 0};
                }
            }
        }
        for (int much = 1; much <= 1000; much++) {
            for (int host = 0; host < now.machines.size(); host++) {
                for (int i = 0; i < 3; i++) {
                    if (now.tasks.get(job).asks[i] - now.left(host, i) == much) {
                        World then = now.copy();
                        then.tasks.get(job).asks[i] -= much;
                        if (then.why(job, host) == 0) {
                            return new int[] {2, i, host, much};
                        }
                    }
                }
            }
        }
        for (int j = 0; j < now.tasks.size(); j++) {
            if (now.tasks.get(j).state == 1) {
                World then = now.copy();
                then.tasks.get(j).leave(2);
                for (int host = 0; host < now.machines.size(); host++) {
                    if (then.why(job, host) == 0) {
                        return new int[] {3, j, host, 0};
                    }
                }
            }
        }
        return null;
    }

    int undo() {
        if (past.isEmpty()) {
            return NOT;
        }
        now = past.removeLast();
        return past.size();
    }

    int count(int what) {
        int[] states = new int[3];
        for (Task t : now.tasks) {
            states[t.state]++;
        }
        int up = 0;
        for (Machine m : now.machines) {
            up += m.up ? 1 : 0;
        }
        int[] all = {now.machines.size(), now.tasks.size(), states[0], states[1], states[2], up,
            now.targeted().size(), past.size()};
        return in(what, 0, 7) ? all[what] : BAD;
    }
}
