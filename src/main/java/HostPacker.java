import java.util.Arrays;

/** Finds jobs of several kinds their hosts. What each call answers stands in the document. */
public final class HostPacker {
    public static final int BAD = -1, NOT = -2, NONE = -3, GREAT = -4;

    private static final int MOST_HOSTS = 10;
    private static final int MOST_JOBS = 24;
    private static final int AMOUNTS = 3;
    private static final int AMOUNT_BOUND = 1001;
    private static final int HALLS = 5;
    private static final int GROUPS = 8;
    private static final int PRIORITIES = 10;
    private static final int TAINT_BITS = 8;
    private static final int TAINT_BOUND = 256;
    private static final int WEIGHTS = 3;
    private static final int MOST_WEIGHT = 100;

    private static final int KINDS = 6;
    private static final int SET = 1;
    private static final int GANG = 2;
    private static final int FIXED = 3;
    private static final int SHY = 4;
    private static final int DRAWN = 5;

    private static final int WAITS = 0;
    private static final int STANDS = 1;
    private static final int ENDED = 2;

    /** No host and no job has this number. */
    private static final int NOWHERE = -1;

    private static final int MOST_TARGETS = 4;
    private static final int MOST_MOVES = 8;
    private static final int MOST_FALLING = 4;
    private static final int MOST_REPACKED = 5;
    private static final int MOST_UNDONE = 30;

    /** These answers would be points or weights, were they not so far below them. */
    private static final int BELOW_WEIGHTS = 1000;
    private static final int BELOW_POINTS = 1000000;

    private final Hosts hosts;
    private final Jobs jobs;
    private final int[] weights;
    private final Floor floor;
    private final Past past;
    private final Asking asking;
    private final Fallout fallout;
    private final Planner planner;
    private final Repacking repacking;
    private final Advice advice;
    private int goneLately;

    public HostPacker() {
        hosts = new Hosts();
        jobs = new Jobs();
        weights = new int[] {1, 10, 5};
        floor = new Floor(hosts, jobs, weights);
        past = new Past(hosts, jobs, weights);
        asking = new Asking(floor);
        Crew crew = new Crew(floor);
        fallout = new Fallout(floor, crew);
        planner = new Planner(floor, crew);
        repacking = new Repacking(floor);
        advice = new Advice(floor);
    }

    // ---- 1 hosts and jobs

    public int host(int a, int b, int c, int hall, int taints) {
        if (!areAmounts(a, b, c) || !isBelow(hall, HALLS) || !isBelow(taints, TAINT_BOUND)) {
            return BAD;
        }
        if (hosts.number >= MOST_HOSTS) {
            return NOT;
        }
        past.keep();
        int host = hosts.add(hall, taints);
        putThree(hosts.amounts, host, a, b, c);
        floor.recount();
        return host;
    }

    public int job(int kind, int a, int b, int c, int priority, int group, int tolerated, int other) {
        if (!isBelow(kind, KINDS) || !areAmounts(a, b, c) || !isBelow(priority, PRIORITIES)) {
            return BAD;
        }
        if (!isBelow(group, GROUPS) || !isBelow(tolerated, TAINT_BOUND) || !isBelow(other, GROUPS)) {
            return BAD;
        }
        if (jobs.number >= MOST_JOBS) {
            return NOT;
        }
        past.keep();
        int job = jobs.add(kind, priority, group, tolerated, other);
        putThree(jobs.asks, job, a, b, c);
        return job;
    }

    public int weight(int which, int w) {
        if (!isBelow(which, WEIGHTS) || w < -MOST_WEIGHT || w > MOST_WEIGHT) {
            return BAD - BELOW_WEIGHTS;
        }
        past.keep();
        int before = weights[which];
        weights[which] = w;
        return before;
    }

    public int why(int job, int host) {
        if (!jobs.has(job) || !hosts.has(host)) {
            return BAD;
        }
        if (jobs.state[job] != WAITS) {
            return NOT;
        }
        return floor.reason(job, host);
    }

    public int points(int job, int host) {
        if (!jobs.has(job) || !hosts.has(host)) {
            return BAD - BELOW_POINTS;
        }
        if (jobs.state[job] != WAITS) {
            return NOT - BELOW_POINTS;
        }
        return floor.score(job, host);
    }

    public int left(int host, int i) {
        if (!hosts.has(host) || !isBelow(i, AMOUNTS)) {
            return BAD;
        }
        return floor.left[host * AMOUNTS + i];
    }

    public int told(int job, int what) {
        if (!jobs.has(job)) {
            return BAD;
        }
        boolean stands = jobs.state[job] == STANDS;
        switch (what) {
            case 0:
                return jobs.state[job];
            case 1:
                return stands ? jobs.host[job] : NONE;
            case 2:
                return stands ? jobs.turn[job] : NONE;
            case 3:
                return jobs.kind[job];
            case 4:
                return jobs.priority[job];
            case 5:
                return jobs.group[job];
            default:
                return BAD;
        }
    }

    // ---- 2 placing

    public int place(int job) {
        if (!jobs.has(job)) {
            return BAD;
        }
        if (jobs.state[job] != WAITS || jobs.kind[job] == GANG) {
            return NOT;
        }
        int host = floor.bestHost(job);
        boolean mustAsk = host == NOWHERE;
        if (mustAsk) {
            host = asking.bestHost(job);
        }
        if (host == NOWHERE) {
            return NONE;
        }
        past.keep();
        goneLately = mustAsk ? sendAway(job, host) : 0;
        seat(job, host);
        return host;
    }

    public int gone() {
        return goneLately;
    }

    public int gang(int group) {
        if (!isBelow(group, GROUPS)) {
            return BAD;
        }
        int size = gangSize(group);
        if (size == 0) {
            return NOT;
        }
        // The gang is tried on the sums alone first: a refusal must leave no trace, nor an undo.
        boolean allFit = fitGang(group);
        floor.recount();
        if (!allFit) {
            return NONE;
        }
        past.keep();
        for (int job = 0; job < jobs.number; job++) {
            if (isInGang(job, group)) {
                seat(job, floor.bestHost(job));
            }
        }
        return size;
    }

    public int end(int job) {
        if (!jobs.has(job)) {
            return BAD;
        }
        if (jobs.state[job] == ENDED) {
            return NOT;
        }
        past.keep();
        release(job, ENDED);
        return 1;
    }

    public int fall(int host) {
        if (!hosts.has(host)) {
            return BAD;
        }
        if (!hosts.up[host]) {
            return NOT;
        }
        past.keep();
        hosts.up[host] = false;
        int waiting = 0;
        for (int job = 0; job < jobs.number; job++) {
            if (jobs.standsOn(job, host)) {
                boolean ends = jobs.kind[job] == FIXED;
                release(job, ends ? ENDED : WAITS);
                waiting += ends ? 0 : 1;
            }
        }
        return waiting;
    }

    public int rise(int host) {
        if (!hosts.has(host)) {
            return BAD;
        }
        if (hosts.up[host]) {
            return NOT;
        }
        past.keep();
        hosts.up[host] = true;
        return 1;
    }

    public int move(int job, int host) {
        if (!jobs.has(job) || !hosts.has(host)) {
            return BAD;
        }
        if (jobs.state[job] != STANDS || jobs.kind[job] == FIXED || jobs.host[job] == host) {
            return NOT;
        }
        int before = jobs.host[job];
        floor.tally(job, before, -1);
        boolean fits = floor.fits(job, host);
        floor.tally(job, before, 1);
        if (!fits) {
            return NONE;
        }
        past.keep();
        release(job, WAITS);
        seat(job, host);
        return before;
    }

    // ---- 3 what would be

    public int safe() {
        if (fallout.isTooMuch()) {
            return GREAT;
        }
        return fallout.firstUnsafe() == NOWHERE ? 1 : 0;
    }

    public int worst() {
        if (fallout.isTooMuch()) {
            return GREAT;
        }
        int host = fallout.firstUnsafe();
        return host == NOWHERE ? NONE : host;
    }

    public int target(int job, int host) {
        if (!jobs.has(job) || host != NOWHERE && !hosts.has(host)) {
            return BAD;
        }
        past.keep();
        jobs.target[job] = host;
        return jobs.targets();
    }

    public int plan() {
        if (!planner.canMoveAll()) {
            return NOT;
        }
        if (jobs.targets() > MOST_TARGETS) {
            return GREAT;
        }
        return planner.find();
    }

    public int step(int i, int what) {
        if (!isBelow(i, planner.steps) || !isBelow(what, 2)) {
            return BAD;
        }
        return what == 0 ? planner.stepJob[i] : planner.stepHost[i];
    }

    public int fewest() {
        if (repacking.gather() > MOST_REPACKED) {
            return GREAT;
        }
        return repacking.fewestHosts();
    }

    public int would(int job, int what) {
        if (!jobs.has(job) || !isBelow(what, 4)) {
            return BAD;
        }
        if (jobs.state[job] != WAITS || floor.firstFit(job) != NOWHERE) {
            return NOT;
        }
        if (!advice.find(job)) {
            return NONE;
        }
        return advice.part(what);
    }

    // ---- 4 undo

    public int undo() {
        if (past.kept == 0) {
            return NOT;
        }
        past.restore();
        floor.recount();
        return past.kept;
    }

    public int count(int what) {
        switch (what) {
            case 0:
                return hosts.number;
            case 1:
                return jobs.number;
            case 2:
                return jobs.inState(WAITS);
            case 3:
                return jobs.inState(STANDS);
            case 4:
                return jobs.inState(ENDED);
            case 5:
                return hosts.upNow();
            case 6:
                return jobs.targets();
            case 7:
                return past.kept;
            default:
                return BAD;
        }
    }

    // ---- what the calls share

    private static boolean isBelow(int number, int bound) {
        return number >= 0 && number < bound;
    }

    private static boolean areAmounts(int a, int b, int c) {
        return isBelow(a, AMOUNT_BOUND) && isBelow(b, AMOUNT_BOUND) && isBelow(c, AMOUNT_BOUND);
    }

    private static void putThree(int[] rows, int row, int a, int b, int c) {
        rows[row * AMOUNTS] = a;
        rows[row * AMOUNTS + 1] = b;
        rows[row * AMOUNTS + 2] = c;
    }

    private void seat(int job, int host) {
        if (!hosts.has(host)) {
            return;
        }
        jobs.settle(job, host);
        floor.tally(job, host, 1);
    }

    private void release(int job, int state) {
        if (jobs.state[job] == STANDS) {
            floor.tally(job, jobs.host[job], -1);
        }
        jobs.leave(job, state);
    }

    private int sendAway(int job, int host) {
        asking.clear(job, host);
        for (int i = 0; i < asking.goers; i++) {
            jobs.leave(asking.going[i], WAITS);
        }
        return asking.goers;
    }

    private boolean isInGang(int job, int group) {
        return jobs.kind[job] == GANG && jobs.group[job] == group && jobs.state[job] == WAITS;
    }

    private int gangSize(int group) {
        int size = 0;
        for (int job = 0; job < jobs.number; job++) {
            size += isInGang(job, group) ? 1 : 0;
        }
        return size;
    }

    private boolean fitGang(int group) {
        for (int job = 0; job < jobs.number; job++) {
            if (isInGang(job, group)) {
                int host = floor.bestHost(job);
                if (host == NOWHERE) {
                    return false;
                }
                floor.tally(job, host, 1);
            }
        }
        return true;
    }

    private static final class Hosts {
        int number;
        final int[] amounts = new int[MOST_HOSTS * AMOUNTS];
        final int[] hall = new int[MOST_HOSTS];
        final int[] taints = new int[MOST_HOSTS];
        final boolean[] up = new boolean[MOST_HOSTS];

        boolean has(int host) {
            return host >= 0 && host < number;
        }

        int add(int itsHall, int itsTaints) {
            int host = number;
            hall[host] = itsHall;
            taints[host] = itsTaints;
            up[host] = true;
            number++;
            return host;
        }

        int upNow() {
            int many = 0;
            for (int host = 0; host < number; host++) {
                many += up[host] ? 1 : 0;
            }
            return many;
        }
    }

    private static final class Jobs {
        int number;
        int turns;
        final int[] kind = new int[MOST_JOBS];
        final int[] asks = new int[MOST_JOBS * AMOUNTS];
        final int[] priority = new int[MOST_JOBS];
        final int[] group = new int[MOST_JOBS];
        final int[] tolerated = new int[MOST_JOBS];
        final int[] other = new int[MOST_JOBS];
        final int[] state = new int[MOST_JOBS];
        final int[] host = new int[MOST_JOBS];
        final int[] turn = new int[MOST_JOBS];
        final int[] target = new int[MOST_JOBS];

        boolean has(int job) {
            return job >= 0 && job < number;
        }

        int add(int itsKind, int itsPriority, int itsGroup, int itsTolerated, int itsOther) {
            int job = number;
            kind[job] = itsKind;
            priority[job] = itsPriority;
            group[job] = itsGroup;
            tolerated[job] = itsTolerated;
            other[job] = itsOther;
            target[job] = NOWHERE;
            leave(job, WAITS);
            number++;
            return job;
        }

        void settle(int job, int itsHost) {
            turns++;
            state[job] = STANDS;
            host[job] = itsHost;
            turn[job] = turns;
        }

        void leave(int job, int itsState) {
            state[job] = itsState;
            host[job] = NOWHERE;
            turn[job] = 0;
        }

        boolean standsOn(int job, int itsHost) {
            return state[job] == STANDS && host[job] == itsHost;
        }

        /** FIXED ones neither move nor make room nor live on without their host. */
        boolean canLeave(int job) {
            return state[job] == STANDS && kind[job] != FIXED;
        }

        int inState(int asked) {
            int many = 0;
            for (int job = 0; job < number; job++) {
                many += state[job] == asked ? 1 : 0;
            }
            return many;
        }

        int targets() {
            int many = 0;
            for (int job = 0; job < number; job++) {
                many += target[job] != NOWHERE ? 1 : 0;
            }
            return many;
        }
    }

    /**
     * What stands where, as sums, so that a search need not count all jobs at every look.
     * A search changes the sums alone and counts them anew from the jobs when it is through.
     */
    private static final class Floor {
        final Hosts hosts;
        final Jobs jobs;
        final int[] weights;
        final int[] left = new int[MOST_HOSTS * AMOUNTS];
        final int[] groupOnHost = new int[MOST_HOSTS * GROUPS];
        final int[] groupInHall = new int[HALLS * GROUPS];
        final int[] shyOnHost = new int[MOST_HOSTS * GROUPS];
        final int[] setInHall = new int[HALLS * GROUPS];
        final int[] gangInHall = new int[HALLS * GROUPS];

        Floor(Hosts hosts, Jobs jobs, int[] weights) {
            this.hosts = hosts;
            this.jobs = jobs;
            this.weights = weights;
        }

        void recount() {
            System.arraycopy(hosts.amounts, 0, left, 0, left.length);
            Arrays.fill(groupOnHost, 0);
            Arrays.fill(groupInHall, 0);
            Arrays.fill(shyOnHost, 0);
            Arrays.fill(setInHall, 0);
            Arrays.fill(gangInHall, 0);
            for (int job = 0; job < jobs.number; job++) {
                if (jobs.state[job] == STANDS) {
                    tally(job, jobs.host[job], 1);
                }
            }
        }

        /** Counts a job in on a host (1) or out (-1). */
        void tally(int job, int host, int one) {
            if (!jobs.has(job) || !hosts.has(host)) {
                return;
            }
            for (int i = 0; i < AMOUNTS; i++) {
                left[host * AMOUNTS + i] -= one * jobs.asks[job * AMOUNTS + i];
            }
            int group = jobs.group[job];
            int inHall = hosts.hall[host] * GROUPS + group;
            groupOnHost[host * GROUPS + group] += one;
            groupInHall[inHall] += one;
            if (jobs.kind[job] == SET) {
                setInHall[inHall] += one;
            }
            if (jobs.kind[job] == GANG) {
                gangInHall[inHall] += one;
            }
            if (jobs.kind[job] == SHY) {
                shyOnHost[host * GROUPS + jobs.other[job]] += one;
            }
        }

        boolean fits(int job, int host) {
            return reason(job, host) == 0;
        }

        int reason(int job, int host) {
            if (!hosts.up[host]) {
                return 1;
            }
            if ((hosts.taints[host] & ~jobs.tolerated[job]) != 0) {
                return 2;
            }
            for (int i = 0; i < AMOUNTS; i++) {
                if (tooMuch(job, host, i) > 0) {
                    return 3 + i;
                }
            }
            if (isUneven(job, host)) {
                return 6;
            }
            int kind = jobs.kind[job];
            int others = others(job, host);
            if (kind == SHY && others > 0 || kind == DRAWN && others == 0) {
                return 7;
            }
            return shyOnHost[host * GROUPS + jobs.group[job]] > 0 ? 8 : 0;
        }

        int tooMuch(int job, int host, int i) {
            return jobs.asks[job * AMOUNTS + i] - left[host * AMOUNTS + i];
        }

        private boolean isUneven(int job, int host) {
            int kind = jobs.kind[job];
            if (kind != SET && kind != GANG) {
                return false;
            }
            int[] inHall = kind == SET ? setInHall : gangInHall;
            int group = jobs.group[job];
            int here = inHall[hosts.hall[host] * GROUPS + group];
            for (int some = 0; some < hosts.number; some++) {
                if (hosts.up[some] && here > inHall[hosts.hall[some] * GROUPS + group]) {
                    return true;
                }
            }
            return false;
        }

        /** How many of its OTHER group a job would be with: a DRAWN one looks at the whole hall. */
        private int others(int job, int host) {
            if (jobs.kind[job] == SHY) {
                return groupOnHost[host * GROUPS + jobs.other[job]];
            }
            if (jobs.kind[job] == DRAWN) {
                return groupInHall[hosts.hall[host] * GROUPS + jobs.other[job]];
            }
            return 0;
        }

        int score(int job, int host) {
            int room = 0;
            for (int i = 0; i < AMOUNTS; i++) {
                room -= tooMuch(job, host, i);
            }
            int own = groupOnHost[host * GROUPS + jobs.group[job]];
            // "less w1 times .., and w2 times ..": only its own GROUP is taken off.
            return weights[0] * room - weights[1] * own + weights[2] * others(job, host);
        }

        int bestHost(int job) {
            int best = NOWHERE;
            int most = 0;
            for (int host = 0; host < hosts.number; host++) {
                if (fits(job, host)) {
                    int score = score(job, host);
                    if (best == NOWHERE || score > most) {
                        best = host;
                        most = score;
                    }
                }
            }
            return best;
        }

        int firstFit(int job) {
            for (int host = 0; host < hosts.number; host++) {
                if (fits(job, host)) {
                    return host;
                }
            }
            return NOWHERE;
        }
    }

    /** The states before the latest accepted calls, in a ring that forgets the oldest. */
    private static final class Past {
        static final int ROW = 3 + WEIGHTS + MOST_HOSTS + 4 * MOST_JOBS;

        final Hosts hosts;
        final Jobs jobs;
        final int[] weights;
        final int[][] rows = new int[MOST_UNDONE][ROW];
        int next;
        int kept;

        Past(Hosts hosts, Jobs jobs, int[] weights) {
            this.hosts = hosts;
            this.jobs = jobs;
            this.weights = weights;
        }

        /** What a job or host was made of is not kept: past the number of them nobody reads it. */
        void keep() {
            int[] row = rows[next];
            row[0] = hosts.number;
            row[1] = jobs.number;
            row[2] = jobs.turns;
            int at = 3;
            System.arraycopy(weights, 0, row, at, WEIGHTS);
            at += WEIGHTS;
            for (int host = 0; host < MOST_HOSTS; host++) {
                row[at + host] = hosts.up[host] ? 1 : 0;
            }
            at += MOST_HOSTS;
            System.arraycopy(jobs.state, 0, row, at, MOST_JOBS);
            System.arraycopy(jobs.host, 0, row, at + MOST_JOBS, MOST_JOBS);
            System.arraycopy(jobs.turn, 0, row, at + 2 * MOST_JOBS, MOST_JOBS);
            System.arraycopy(jobs.target, 0, row, at + 3 * MOST_JOBS, MOST_JOBS);
            next = next == MOST_UNDONE - 1 ? 0 : next + 1;
            kept = kept == MOST_UNDONE ? kept : kept + 1;
        }

        void restore() {
            next = next == 0 ? MOST_UNDONE - 1 : next - 1;
            kept--;
            int[] row = rows[next];
            hosts.number = row[0];
            jobs.number = row[1];
            jobs.turns = row[2];
            int at = 3;
            System.arraycopy(row, at, weights, 0, WEIGHTS);
            at += WEIGHTS;
            for (int host = 0; host < MOST_HOSTS; host++) {
                hosts.up[host] = row[at + host] == 1;
            }
            at += MOST_HOSTS;
            System.arraycopy(row, at, jobs.state, 0, MOST_JOBS);
            System.arraycopy(row, at + MOST_JOBS, jobs.host, 0, MOST_JOBS);
            System.arraycopy(row, at + 2 * MOST_JOBS, jobs.turn, 0, MOST_JOBS);
            System.arraycopy(row, at + 3 * MOST_JOBS, jobs.target, 0, MOST_JOBS);
        }
    }

    /** Where a job that fits nowhere finds room by asking lesser ones to go. */
    private static final class Asking {
        final Floor floor;
        final Jobs jobs;
        final int[] going = new int[MOST_JOBS];
        int goers;

        Asking(Floor floor) {
            this.floor = floor;
            this.jobs = floor.jobs;
        }

        int bestHost(int job) {
            if (jobs.kind[job] == FIXED) {
                return NOWHERE;
            }
            int best = NOWHERE;
            int leastPriority = 0;
            int fewestGo = 0;
            for (int host = 0; host < floor.hosts.number; host++) {
                boolean fits = clear(job, host);
                putBack(host);
                if (fits && goers > 0) {
                    // They go in order of priority, so the last one's is the greatest.
                    int priority = jobs.priority[going[goers - 1]];
                    boolean asFew = priority == leastPriority && goers < fewestGo;
                    if (best == NOWHERE || priority < leastPriority || asFew) {
                        best = host;
                        leastPriority = priority;
                        fewestGo = goers;
                    }
                }
            }
            return best;
        }

        /** Counts out those that must go from a host, and tells whether the job fits there then. */
        boolean clear(int job, int host) {
            goers = 0;
            while (goers < MOST_JOBS && !floor.fits(job, host)) {
                int next = nextToGo(job, host);
                if (next == NOWHERE) {
                    return false;
                }
                floor.tally(next, host, -1);
                going[goers] = next;
                goers++;
            }
            return floor.fits(job, host);
        }

        private void putBack(int host) {
            for (int i = 0; i < goers; i++) {
                floor.tally(going[i], host, 1);
            }
        }

        private int nextToGo(int job, int host) {
            int next = NOWHERE;
            for (int one = 0; one < jobs.number; one++) {
                boolean mayGo = jobs.standsOn(one, host) && jobs.canLeave(one)
                        && jobs.priority[one] < jobs.priority[job];
                if (mayGo && isYetToGo(one) && (next == NOWHERE || goesBefore(one, next))) {
                    next = one;
                }
            }
            return next;
        }

        private boolean isYetToGo(int one) {
            return goers == 0 || goesBefore(going[goers - 1], one);
        }

        private boolean goesBefore(int one, int another) {
            if (jobs.priority[one] != jobs.priority[another]) {
                return jobs.priority[one] < jobs.priority[another];
            }
            return jobs.turn[one] > jobs.turn[another];
        }
    }

    /**
     * Up to four jobs whose hosts a search tries out. Where they all stand is one number, their
     * code, of which each job has a decimal digit: its host.
     */
    private static final class Crew {
        static final int MOST = 4;
        static final int CODES = 10000;
        static final int UNSEEN = -1;
        private static final int[] POWERS = {1, 10, 100, 1000, 10000};

        final Floor floor;
        final int[] member = new int[MOST];
        final int[] at = new int[MOST];
        final int[] line = new int[CODES];
        final int[] from = new int[CODES];
        int size;
        int lined;
        /** Who is on this host waits: the host has fallen. */
        int fallen;

        Crew(Floor floor) {
            this.floor = floor;
        }

        void begin(int fallenHost) {
            size = 0;
            fallen = fallenHost;
        }

        void join(int job, int host) {
            if (size < MOST && isBelow(host, MOST_HOSTS)) {
                member[size] = job;
                at[size] = host;
                size++;
            }
        }

        int code() {
            int code = 0;
            for (int k = 0; k < size; k++) {
                code += at[k] * POWERS[k];
            }
            return code;
        }

        int hostIn(int code, int k) {
            int rest = code;
            for (int i = 0; i < k; i++) {
                rest /= 10;
            }
            return rest % 10;
        }

        /** From which code a seen one was first reached. */
        int before(int code) {
            return isBelow(code, CODES) ? from[code] : code;
        }

        /** Starts a search: only where the crew is now has been seen. */
        void lookFrom(int code) {
            for (int one = 0; one < POWERS[size]; one++) {
                from[one] = UNSEEN;
            }
            lined = 0;
            see(code, code);
        }

        boolean isUnseen(int code) {
            return isBelow(code, CODES) && from[code] == UNSEEN;
        }

        private void see(int code, int before) {
            if (isUnseen(code) && lined < CODES) {
                from[code] = before;
                line[lined] = code;
                lined++;
            }
        }

        /** Lines up all unseen codes that one move leads to, in order of jobs, then hosts. */
        void lineUpNext(int code) {
            for (int k = 0; k < size; k++) {
                put(k, hostIn(code, k));
            }
            for (int k = 0; k < size; k++) {
                int home = at[k];
                if (fallen == NOWHERE || home == fallen) {
                    put(k, fallen);
                    for (int host = 0; host < floor.hosts.number; host++) {
                        int next = code + (host - home) * POWERS[k];
                        if (isUnseen(next) && floor.fits(member[k], host)) {
                            see(next, code);
                        }
                    }
                    put(k, home);
                }
            }
        }

        /** Who is put on the fallen host, or nowhere where none has fallen, does not count. */
        private void put(int k, int host) {
            if (host == at[k]) {
                return;
            }
            if (at[k] != fallen) {
                floor.tally(member[k], at[k], -1);
            }
            at[k] = host;
            if (host != fallen) {
                floor.tally(member[k], host, 1);
            }
        }

        boolean allLeftFallen(int code) {
            for (int k = 0; k < size; k++) {
                if (hostIn(code, k) == fallen) {
                    return false;
                }
            }
            return true;
        }
    }

    /** Whether all would have a place if a host fell. */
    private static final class Fallout {
        final Floor floor;
        final Hosts hosts;
        final Jobs jobs;
        final Crew crew;

        Fallout(Floor floor, Crew crew) {
            this.floor = floor;
            this.hosts = floor.hosts;
            this.jobs = floor.jobs;
            this.crew = crew;
        }

        boolean isTooMuch() {
            for (int host = 0; host < hosts.number; host++) {
                int many = 0;
                for (int job = 0; job < jobs.number; job++) {
                    many += jobs.standsOn(job, host) && jobs.canLeave(job) ? 1 : 0;
                }
                if (many > MOST_FALLING) {
                    return true;
                }
            }
            return false;
        }

        int firstUnsafe() {
            for (int host = 0; host < hosts.number; host++) {
                if (hosts.up[host]) {
                    letFall(host);
                    boolean all = allFindHosts();
                    hosts.up[host] = true;
                    floor.recount();
                    if (!all) {
                        return host;
                    }
                }
            }
            return NOWHERE;
        }

        /** As if it fell: those that would wait then are the crew, still told to be there. */
        private void letFall(int host) {
            hosts.up[host] = false;
            crew.begin(host);
            for (int job = 0; job < jobs.number; job++) {
                if (jobs.standsOn(job, host)) {
                    floor.tally(job, host, -1);
                    if (jobs.canLeave(job)) {
                        crew.join(job, host);
                    }
                }
            }
        }

        /** The latest seen is looked at first: that way a place for all is found soon. */
        private boolean allFindHosts() {
            crew.lookFrom(crew.code());
            for (int looks = 0; looks < Crew.CODES && crew.lined > 0; looks++) {
                crew.lined--;
                int code = crew.line[crew.lined];
                if (crew.allLeftFallen(code)) {
                    return true;
                }
                crew.lineUpNext(code);
            }
            return false;
        }
    }

    /** The fewest moves to the targets, and the latest such plan. */
    private static final class Planner {
        final Floor floor;
        final Jobs jobs;
        final Crew crew;
        final int[] stepJob = new int[MOST_MOVES];
        final int[] stepHost = new int[MOST_MOVES];
        int steps;

        Planner(Floor floor, Crew crew) {
            this.floor = floor;
            this.jobs = floor.jobs;
            this.crew = crew;
        }

        boolean canMoveAll() {
            for (int job = 0; job < jobs.number; job++) {
                if (jobs.target[job] != NOWHERE && !jobs.canLeave(job)) {
                    return false;
                }
            }
            return true;
        }

        int find() {
            crew.begin(NOWHERE);
            for (int job = 0; job < jobs.number; job++) {
                if (jobs.target[job] != NOWHERE) {
                    crew.join(job, jobs.host[job]);
                }
            }
            int goal = 0;
            for (int k = 0; k < crew.size; k++) {
                goal += jobs.target[crew.member[k]] * Crew.POWERS[k];
            }
            int moves = movesTo(goal);
            floor.recount();
            if (moves >= 0) {
                noteSteps(goal, moves);
            }
            return moves;
        }

        /**
         * Codes are looked at in the order in which they were seen. So each is first seen on the
         * first of its shortest ways: the one with the lesser job, then host, where ways differ.
         */
        private int movesTo(int goal) {
            if (!isBelow(goal, Crew.CODES)) {
                return NONE;
            }
            crew.lookFrom(crew.code());
            int looked = 0;
            for (int moves = 0; moves < MOST_MOVES; moves++) {
                if (!crew.isUnseen(goal)) {
                    return moves;
                }
                int seen = crew.lined;
                for (; looked < seen; looked++) {
                    crew.lineUpNext(crew.line[looked]);
                }
            }
            return crew.isUnseen(goal) ? NONE : MOST_MOVES;
        }

        private void noteSteps(int goal, int moves) {
            steps = moves;
            int code = goal;
            for (int i = moves - 1; i >= 0; i--) {
                int before = crew.before(code);
                for (int k = 0; k < crew.size; k++) {
                    if (crew.hostIn(before, k) != crew.hostIn(code, k)) {
                        stepJob[i] = crew.member[k];
                        stepHost[i] = crew.hostIn(code, k);
                    }
                }
                code = before;
            }
        }
    }

    /** How few hosts would do, if all that may leave were placed anew. */
    private static final class Repacking {
        final Floor floor;
        final Jobs jobs;
        final int[] member = new int[MOST_REPACKED];
        int size;
        int fewest;

        Repacking(Floor floor) {
            this.floor = floor;
            this.jobs = floor.jobs;
        }

        /** Tells how many there are, of which it keeps no more than can be looked through. */
        int gather() {
            int many = 0;
            for (int job = 0; job < jobs.number; job++) {
                if (jobs.canLeave(job)) {
                    if (many < MOST_REPACKED) {
                        member[many] = job;
                    }
                    many++;
                }
            }
            size = Math.min(many, MOST_REPACKED);
            return many;
        }

        int fewestHosts() {
            for (int k = 0; k < size; k++) {
                floor.tally(member[k], jobs.host[member[k]], -1);
            }
            fewest = MOST_HOSTS + 1;
            placeFrom(this, 0, 0);
            floor.recount();
            return fewest > MOST_HOSTS ? NONE : fewest;
        }

        /** The hosts used so far are bits; a way that uses no fewer than the best is left early. */
        private static void placeFrom(Repacking some, int k, int used) {
            if (k >= MOST_REPACKED || k >= some.size) {
                some.fewest = Math.min(some.fewest, Integer.bitCount(used));
                return;
            }
            int job = some.member[k];
            for (int host = 0; host < some.floor.hosts.number; host++) {
                int then = used | 1 << host;
                if (Integer.bitCount(then) < some.fewest && some.floor.fits(job, host)) {
                    some.floor.tally(job, host, 1);
                    placeFrom(some, k + 1, then);
                    some.floor.tally(job, host, -1);
                }
            }
        }
    }

    /** The least change that makes a no a yes. */
    private static final class Advice {
        final Floor floor;
        final Hosts hosts;
        final Jobs jobs;
        int change;
        int subject;
        int host;
        int much;

        Advice(Floor floor) {
            this.floor = floor;
            this.hosts = floor.hosts;
            this.jobs = floor.jobs;
        }

        int part(int what) {
            switch (what) {
                case 0:
                    return change;
                case 1:
                    return subject;
                case 2:
                    return host;
                default:
                    return much;
            }
        }

        boolean find(int job) {
            host = NOWHERE;
            much = 0;
            return byTaint(job) || byAmount(job) || byGoing(job);
        }

        private boolean byTaint(int job) {
            change = 1;
            int tolerated = jobs.tolerated[job];
            for (int bit = 0; bit < TAINT_BITS && host == NOWHERE; bit++) {
                jobs.tolerated[job] = tolerated | 1 << bit;
                subject = bit;
                host = floor.firstFit(job);
            }
            jobs.tolerated[job] = tolerated;
            return host != NOWHERE;
        }

        private boolean byAmount(int job) {
            change = 2;
            for (int some = 0; some < hosts.number; some++) {
                for (int i = 0; i < AMOUNTS; i++) {
                    int less = floor.tooMuch(job, some, i);
                    boolean isLeast = host == NOWHERE || less < much;
                    if (less > 0 && isLeast && fitsWithLess(job, some, i, less)) {
                        subject = i;
                        host = some;
                        much = less;
                    }
                }
            }
            return host != NOWHERE;
        }

        private boolean fitsWithLess(int job, int some, int i, int less) {
            jobs.asks[job * AMOUNTS + i] -= less;
            boolean fits = floor.fits(job, some);
            jobs.asks[job * AMOUNTS + i] += less;
            return fits;
        }

        private boolean byGoing(int job) {
            change = 3;
            for (int one = 0; one < jobs.number && host == NOWHERE; one++) {
                if (jobs.state[one] == STANDS) {
                    floor.tally(one, jobs.host[one], -1);
                    subject = one;
                    host = floor.firstFit(job);
                    floor.tally(one, jobs.host[one], 1);
                }
            }
            return host != NOWHERE;
        }
    }
}
