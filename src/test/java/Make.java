import java.util.ArrayList;
import java.util.List;
import java.util.stream.IntStream;

/** Worlds that tests begin with, and all that a world tells. */
final class Make {
    /** As hosts of a job: all those that have a taint of their own. */
    static final int ANY = 255;

    private Make() {
    }

    /** What lies outside least .. most: next to it, far off, and where a shorter number would wrap. */
    static int[] outside(int least, int most) {
        return IntStream.of(least - 1, most + 1, least - 2, most + 2, least + 128, least - 256, least + 256,
                most + 256, least - 65536, least + 65536, most + 65536, most - 65536, 1 << 30,
                Integer.MIN_VALUE, Integer.MIN_VALUE + most, Integer.MAX_VALUE, Integer.MAX_VALUE - 1)
                .filter(n -> n < least || n > most).distinct().toArray();
    }

    /** A host with so much of each amount and a taint of its own, by which jobs choose their hosts. */
    static int host(HostPacker x, int amount, int hall) {
        return x.host(amount, amount, amount, hall, 1 << x.count(0));
    }

    /** Such hosts, all in hall 0. */
    static HostPacker hosts(int... amounts) {
        HostPacker x = new HostPacker();
        for (int amount : amounts) {
            host(x, amount, 0);
        }
        return x;
    }

    /** Such hosts with 100 of each amount, in the halls told. */
    static HostPacker halls(int... halls) {
        HostPacker x = new HostPacker();
        for (int hall : halls) {
            host(x, 100, hall);
        }
        return x;
    }

    /** Hosts without taints, all in hall 0. */
    static HostPacker many(int hosts, int amount) {
        HostPacker x = new HostPacker();
        for (int i = 0; i < hosts; i++) {
            x.host(amount, amount, amount, 0, 0);
        }
        return x;
    }

    /** The bits of hosts on which a job may stand. */
    static int on(int... hosts) {
        return IntStream.of(hosts).map(h -> 1 << h).sum();
    }

    /** A job that asks for some of the first amount alone and may stand on the hosts told as bits. */
    static int job(HostPacker x, int kind, int a, int priority, int group, int other, int hosts) {
        return x.job(kind, a, 0, 0, priority, group, hosts, other);
    }

    /** A plain one of priority 0 and group 0. */
    static int plain(HostPacker x, int a, int hosts) {
        return job(x, 0, a, 0, 0, 0, hosts);
    }

    /** A job that stands on a host, and may stand on no other. */
    static int standing(HostPacker x, int kind, int a, int priority, int group, int other, int host) {
        int job = job(x, kind, a, priority, group, other, on(host));
        Check.due("job " + job + " is placed", x.place(job), host);
        return job;
    }

    /** A plain one that stands on a host, and may stand on no other. */
    static int standing(HostPacker x, int a, int host) {
        return standing(x, 0, a, 0, 0, 0, host);
    }

    /** Puts a job that waits on a host, from its best one if that is another. */
    static void put(HostPacker x, int job, int host) {
        if (x.place(job) != host) {
            x.move(job, host);
        }
        Check.due("job " + job + " is put", x.told(job, 1), host);
    }

    /** A plain job that may stand anywhere, and stands on a host. */
    static int plainOn(HostPacker x, int a, int host) {
        int job = plain(x, a, ANY);
        put(x, job, host);
        return job;
    }

    /**
     * Some of everything, by 29 accepted calls: hosts up and down, jobs of each kind, some that
     * wait, stand and have ended, one that asked another to go, weights, targets, a plan.
     */
    static HostPacker busy() {
        HostPacker x = Make.halls(0, 1, 1, 2);
        x.fall(3);
        standing(x, 3, 30, 0, 1, 0, 0);
        put(x, job(x, 1, 10, 2, 2, 0, on(0, 1, 2)), 1);
        job(x, 2, 5, 0, 3, 0, on(0));
        Check.due("a gang", x.gang(3), 1);
        job(x, 2, 101, 0, 3, 0, ANY);
        standing(x, 0, 60, 4, 4, 0, 2);
        standing(x, 0, 50, 5, 4, 0, 2);
        standing(x, 4, 1, 1, 5, 6, 0);
        put(x, job(x, 5, 1, 1, 5, 1, on(0)), 0);
        x.end(plain(x, 7, ANY));
        job(x, 0, 101, 9, 0, 0, ANY);
        plain(x, 8, ANY);
        job(x, 2, 9, 0, 6, 0, ANY);
        job(x, 0, 60, 9, 0, 0, on(2));
        x.weight(2, -6);
        x.target(1, 2);
        x.target(6, 0);
        Check.due("a plan", x.plan(), 1);
        return x;
    }

    /** One of each kind that stands, and some that wait and look at who stands there. */
    static HostPacker mixed() {
        HostPacker x = Make.halls(0, 1, 1);
        standing(x, 1, 20, 1, 2, 0, 0);
        job(x, 2, 20, 2, 3, 0, on(1));
        Check.due("a gang", x.gang(3), 1);
        standing(x, 0, 20, 3, 6, 0, 1);
        standing(x, 4, 20, 4, 1, 7, 1);
        standing(x, 3, 20, 5, 4, 0, 2);
        put(x, job(x, 5, 20, 6, 5, 6, ANY), 2);
        job(x, 1, 0, 0, 2, 0, ANY);
        job(x, 2, 0, 0, 3, 0, ANY);
        job(x, 2, 0, 0, 3, 0, on(1));
        job(x, 4, 0, 0, 5, 6, ANY);
        job(x, 5, 0, 0, 6, 4, ANY);
        job(x, 5, 0, 0, 7, 2, ANY);
        job(x, 0, 0, 0, 7, 0, ANY);
        job(x, 5, 0, 0, 0, 0, ANY);
        job(x, 2, 0, 0, 3, 0, on(1));
        job(x, 0, 0, 0, 6, 0, ANY);
        x.target(2, 1);
        x.target(5, 1);
        Check.due("a plan", x.plan(), 1);
        return x;
    }

    /** As many of all as there can be: 10 hosts, 24 jobs that stand, 30 calls to undo, 5 targets. */
    static HostPacker full() {
        HostPacker x = many(10, 24);
        for (int i = 0; i < 24; i++) {
            job(x, 0, 1, i % 3, i % 8, 0, 0);
        }
        for (int i = 0; i < 24; i++) {
            x.place(i);
        }
        for (int i = 0; i < 6; i++) {
            x.target(i, 9);
        }
        return x;
    }

    /** All that an object tells of how things are; its targets and weights are gone after that. */
    static List<Integer> toldNow(HostPacker x) {
        List<Integer> all = toldOfCounts(x);
        for (int job = x.count(1) - 1; job >= 0; job--) {
            for (int what = 0; what < 6; what++) {
                all.add(x.told(job, what));
            }
            for (int host = 0; host < x.count(0) && x.told(job, 0) == 0; host++) {
                all.add(x.why(job, host));
                all.add(x.points(job, host));
            }
        }
        for (int host = 0; host < x.count(0); host++) {
            for (int i = 0; i < 3; i++) {
                all.add(x.left(host, i));
            }
        }
        all.add(x.plan());
        toldOfSteps(x, all);
        for (int job = 0; job < x.count(1); job++) {
            all.add(x.target(job, -1));
        }
        for (int which = 0; which < 3; which++) {
            all.add(x.weight(which, 0));
        }
        return all;
    }

    /** How things were before each call that can be taken back: all are gone after that. */
    static List<Integer> toldBack(HostPacker x) {
        List<Integer> all = new ArrayList<>();
        all.add(x.gone());
        toldOfSteps(x, all);
        for (int i = 0; i < 31; i++) {
            all.add(x.count(7));
            all.add(x.undo());
            all.addAll(toldOfCounts(x));
            all.add(x.told(i % 24, 1));
            all.add(x.left(i % 10, 0));
        }
        return all;
    }

    private static List<Integer> toldOfCounts(HostPacker x) {
        List<Integer> all = new ArrayList<>();
        for (int what = 0; what < 7; what++) {
            all.add(x.count(what));
        }
        return all;
    }

    private static void toldOfSteps(HostPacker x, List<Integer> all) {
        for (int i = 0; i < 9; i++) {
            all.add(x.step(i, 0));
            all.add(x.step(i, 1));
        }
    }
}
