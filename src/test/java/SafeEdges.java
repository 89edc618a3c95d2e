/** Promises 16 and 17, whether all would have a place if a host fell, with SAFE of the terms. */
final class SafeEdges {
    private static final int NONE = -3, GREAT = -4;
    private static final String SAFE = "SAFE: for each UP HOST, if it fell, all its JOBS but FIXED ones could "
            + "STAND on other UP HOSTS, in some order of placing them there (each FITS when it is placed; others stay)";

    private SafeEdges() {
    }

    static void check() {
        nobodyToPlace();
        room();
        onlyUpHosts();
        notFixedOnes();
        someOrder();
        eachFitsThen();
        othersStay();
        worstHost();
        moreThanFour();
    }

    /** safe() and worst() answer of the same: worst is the host, NONE, or GREAT. */
    private static void due(String what, HostPacker x, int worst) {
        Check.due(what + ", safe", x.safe(), worst == GREAT ? GREAT : worst == NONE ? 1 : 0);
        Check.due(what + ", worst", x.worst(), worst);
    }

    private static void nobodyToPlace() {
        Check.says(16, "1 SAFE, 0 not");
        Check.says(17, "NONE");
        HostPacker x = new HostPacker();
        due("no hosts", x, NONE);
        Make.plain(x, 5, 1);
        due("no hosts, and a job that waits", x, NONE);
        Make.host(x, 9, 0);
        due("a host, and none that stands", x, NONE);
        x.place(0);
        due("one host, and one on it", x, 0);
        x.end(0);
        due("it has ended", x, NONE);
        x = Make.many(10, 0);
        due("ten hosts", x, NONE);
    }

    private static void room() {
        Check.says(0, SAFE);
        Check.says(16, "1 SAFE, 0 not");
        for (int needed = 4; needed < 7; needed++) {
            HostPacker x = Make.hosts(10, 10);
            Make.standing(x, 3, 5, 0, 0, 0, 1);
            Make.put(x, Make.plain(x, needed, Make.ANY), 0);
            due("five are left, needed are " + needed, x, needed > 5 ? 0 : NONE);
        }
        for (int spread = 0; spread < 2; spread++) {
            for (int lacks = 0; lacks < 2; lacks++) {
                HostPacker x = spread == 0 ? Make.hosts(4, 4 - lacks) : Make.hosts(4, 1, 1, 1, 1 - lacks);
                for (int i = 0; i < 4; i++) {
                    Make.put(x, Make.plain(x, 1, Make.ANY), 0);
                }
                due("four find room, but for " + lacks, x, lacks > 0 ? 0 : NONE);
            }
        }
        HostPacker x = Make.hosts(14, 2, 3, 4, 5);
        for (int asks = 5; asks > 1; asks--) {
            Make.put(x, Make.plain(x, asks, Make.ANY), 0);
        }
        due("each has one host that leaves room for all", x, NONE);
        Check.due("nothing has moved", x.told(3, 1), 0);
        Check.due("nothing is taken", x.left(4, 0), 5);
        Check.due("all are up", x.count(5), 5);
        for (int first = 0; first < 10; first += 9) {
            x = new HostPacker();
            for (int host = 0; host < 10; host++) {
                x.host(host == 0 || host == 9 ? 4 : 0, 4, 4, 0, 0);
            }
            for (int i = 0; i < 4; i++) {
                Make.put(x, Make.plain(x, 1, 0), first);
            }
            due("all four from the one end to the other", x, NONE);
            Make.put(x, Make.plain(x, 1, 0), 9 - first);
            due("but for one", x, 0);
        }
        x = Make.hosts(14, 2, 3, 4, 4);
        for (int asks = 5; asks > 1; asks--) {
            Make.put(x, Make.plain(x, asks, Make.ANY), 0);
        }
        due("one has none", x, 0);
    }

    private static void onlyUpHosts() {
        Check.says(0, SAFE);
        Check.says(17, "The first UP HOST for which it is not SAFE");
        HostPacker x = Make.hosts(9, 9);
        Make.put(x, Make.plain(x, 5, Make.ANY), 1);
        due("the other host is up", x, NONE);
        x.fall(0);
        due("the other host is down", x, 1);
        x.rise(0);
        due("it is up again", x, NONE);
        x.fall(1);
        due("its own host is down, and it waits", x, NONE);
    }

    private static void notFixedOnes() {
        Check.says(0, SAFE);
        HostPacker x = Make.hosts(9, 9);
        for (int i = 0; i < 5; i++) {
            Make.standing(x, 3, 1, 0, 0, 0, 0);
        }
        due("fixed ones need no place, were there five", x, NONE);
        Make.put(x, Make.plain(x, 4, Make.ANY), 0);
        due("one that needs one has one", x, NONE);
        Make.standing(x, 3, 6, 0, 0, 0, 1);
        due("fixed ones stay where they are", x, 0);
        x = Make.hosts(9, 9);
        Make.standing(x, 3, 0, 0, 2, 0, 0);
        Make.put(x, Make.job(x, 5, 0, 0, 1, 2, Make.ANY), 0);
        due("drawn to a fixed one that would have ended", x, 0);
    }

    private static void someOrder() {
        Check.says(0, SAFE);
        for (int chain = 0; chain < 2; chain++) {
            HostPacker x = Make.halls(0, 1);
            for (int i = 0; i < 3; i++) {
                Make.job(x, 5, 0, 0, i + 1, i + 2, Make.on(0, 1));
            }
            Make.job(x, 0, 0, 0, 4, 0, chain == 0 ? Make.on(0, 1) : Make.on(0));
            for (int job = 3; job >= 0; job--) {
                Make.put(x, job, 0);
            }
            due("each drawn to the next, the last with " + chain, x, chain == 0 ? NONE : 0);
        }
    }

    private static void eachFitsThen() {
        Check.says(0, SAFE);
        HostPacker x = Make.halls(0, 1, 1);
        int near = Make.on(0, 1);
        Make.put(x, Make.job(x, 1, 0, 0, 2, 0, near), 0);
        Make.put(x, Make.job(x, 0, 0, 0, 5, 0, near), 0);
        Make.put(x, Make.job(x, 4, 0, 0, 6, 7, near), 0);
        due("one of a set", x, NONE);
        Make.put(x, Make.job(x, 4, 0, 0, 6, 5, Make.on(0, 1, 2)), 2);
        x.end(1);
        Make.put(x, 3, 0);
        due("shy, and its other group is gone", x, NONE);
        x = Make.hosts(9, 9, 9);
        Make.put(x, Make.job(x, 0, 0, 0, 5, 0, near), 0);
        Make.put(x, Make.job(x, 4, 0, 0, 6, 5, near), 1);
        due("the shy one's host would do for none", x, 0);
        x = Make.halls(0, 1, 0);
        Make.put(x, Make.job(x, 1, 0, 0, 2, 0, near), 0);
        due("the first of a set to hall 1", x, NONE);
        Make.standing(x, 1, 0, 0, 2, 0, 1);
        due("the second to hall 1, none in hall 0, that is up", x, 0);
        x.end(1);
        x.fall(2);
        Make.standing(x, 1, 0, 0, 2, 0, 1);
        x.end(2);
        due("with none there", x, NONE);
        x = Make.halls(0, 1);
        Make.put(x, Make.job(x, 1, 0, 0, 2, 0, near), 0);
        Make.standing(x, 1, 0, 0, 2, 0, 1);
        x.end(1);
        Make.put(x, Make.job(x, 1, 0, 0, 2, 0, near), 1);
        due("the second to a hall, and the other has no host then", x, NONE);
    }

    private static void othersStay() {
        Check.says(0, SAFE);
        HostPacker x = Make.hosts(9, 9, 4);
        Make.put(x, Make.job(x, 0, 6, 9, 0, 0, Make.on(0, 1)), 0);
        Make.put(x, Make.job(x, 0, 4, 0, 0, 0, Make.ANY), 1);
        due("a lesser one is not asked to go, nor moved", x, 0);
        x.move(1, 2);
        due("it is not in the way", x, NONE);
    }

    private static void worstHost() {
        Check.says(17, "The first UP HOST for which it is not SAFE");
        HostPacker x = Make.many(9, 0);
        x.host(9, 9, 9, 0, 0);
        Make.plain(x, 1, 0);
        x.place(0);
        due("the last of ten", x, 9);
        x = Make.hosts(9, 9, 9, 9);
        Make.put(x, Make.plain(x, 1, Make.ANY), 0);
        due("none", x, NONE);
        Make.standing(x, 1, 2);
        Make.standing(x, 1, 3);
        due("the first of two", x, 2);
        x.fall(2);
        due("the first is down", x, 3);
        x.place(1);
        x.rise(2);
        x.place(1);
        due("both again", x, 2);
    }

    private static void moreThanFour() {
        Check.says(0, "With more than 4 such JOBS on one, GREAT");
        Check.says(16, "GREAT");
        Check.says(17, "GREAT");
        for (int many = 3; many < 7; many++) {
            HostPacker x = Make.hosts(9, 9);
            for (int i = 0; i < many; i++) {
                Make.put(x, Make.plain(x, 1, Make.ANY), 0);
            }
            due(many + " on the first", x, many > 4 ? GREAT : NONE);
            Make.standing(x, 3, 1, 0, 0, 0, 0);
            due(many + " and a fixed one", x, many > 4 ? GREAT : NONE);
            x.move(0, 1);
            due("one less", x, many > 5 ? GREAT : NONE);
            x.move(0, 0);
            x.fall(0);
            due(many + " that wait", x, NONE);
        }
        HostPacker x = Make.many(6, 9);
        for (int i = 0; i < 24; i++) {
            Make.plain(x, 1, 0);
            Make.put(x, i, i / 4);
        }
        due("four on each of six", x, NONE);
        x.move(0, 5);
        due("five on the last", x, GREAT);
        x = Make.hosts(9, 9);
        Make.standing(x, 9, 0);
        due("not safe", x, 0);
        for (int i = 0; i < 5; i++) {
            Make.standing(x, 1, 1);
        }
        due("too many on the second, although the first is not safe", x, GREAT);
    }
}
