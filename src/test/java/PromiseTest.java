/** Each promise of the document by itself: ordinary inputs, the named edges, wrong inputs. */
public final class PromiseTest {
    private static final int[] FAR = {Integer.MIN_VALUE, -1000000, -2, 1000000, Integer.MAX_VALUE};
    private static int promise;

    private PromiseTest() {
    }

    private static void due(String call, long got, long want) {
        Check.due("promise " + promise + ": " + call, got, want);
    }

    private static HostPacker withHosts(int many, int amount) {
        HostPacker x = new HostPacker();
        for (int i = 0; i < many; i++) {
            due("a host", x.host(amount, amount, amount, 0, 0), i);
        }
        return x;
    }

    /** A JOB of a kind that asks for some of the first amount alone. */
    private static int add(HostPacker x, int kind, int a, int priority, int group, int other) {
        return x.job(kind, a, 0, 0, priority, group, 0, other);
    }

    private static void steps(HostPacker x, int... due) {
        for (int i = 0; i < due.length / 2; i++) {
            due("step " + i + " job", x.step(i, 0), due[2 * i]);
            due("step " + i + " host", x.step(i, 1), due[2 * i + 1]);
        }
        due("step past the last", x.step(due.length / 2, 0), -1);
    }

    private static void would(HostPacker x, int job, int which, int what, int host, int much) {
        due("would which", x.would(job, 0), which);
        due("would what", x.would(job, 1), what);
        due("would host", x.would(job, 2), host);
        due("would much", x.would(job, 3), much);
    }

    private static void newObject() {
        HostPacker x = new HostPacker();
        for (int what = 0; what < 8; what++) {
            due("count " + what, x.count(what), 0);
        }
        due("undo", x.undo(), -2);
        due("gone", x.gone(), 0);
        due("step", x.step(0, 0), -1);
        due("told", x.told(0, 0), -1);
        due("left", x.left(0, 0), -1);
        due("w0", x.weight(0, 0), 1);
        due("w1", x.weight(1, 0), 10);
        due("w2", x.weight(2, 0), 5);
        due("another object keeps its own", new HostPacker().weight(0, 7), 1);
    }

    private static void hosts() {
        HostPacker x = new HostPacker();
        due("least", x.host(0, 0, 0, 0, 0), 0);
        due("most", x.host(1000, 1000, 1000, 4, 255), 1);
        due("is up", x.count(5), 2);
        for (int far : new int[] {-1, 1001, Integer.MIN_VALUE, Integer.MAX_VALUE}) {
            due("a " + far, x.host(far, 0, 0, 0, 0), -1);
            due("b " + far, x.host(0, far, 0, 0, 0), -1);
            due("c " + far, x.host(0, 0, far, 0, 0), -1);
        }
        for (int far : new int[] {-1, 5, Integer.MIN_VALUE, Integer.MAX_VALUE}) {
            due("hall " + far, x.host(0, 0, 0, far, 0), -1);
        }
        for (int far : new int[] {-1, 256, Integer.MIN_VALUE, Integer.MAX_VALUE}) {
            due("taints " + far, x.host(0, 0, 0, 0, far), -1);
        }
        due("BAD ones are no hosts", x.count(0), 2);
        for (int i = 2; i < 10; i++) {
            due("host " + i, x.host(i, i, i, 0, 0), i);
        }
        due("an eleventh", x.host(1, 1, 1, 0, 0), -2);
        due("BAD before NOT", x.host(-1, 1, 1, 0, 0), -1);
        due("ten", x.count(0), 10);
        due("amounts are kept", x.left(7, 1), 7);
    }

    private static void jobs() {
        HostPacker x = new HostPacker();
        due("least", x.job(0, 0, 0, 0, 0, 0, 0, 0), 0);
        due("most", x.job(5, 1000, 1000, 1000, 9, 7, 255, 7), 1);
        int[] most = {5, 1000, 1000, 1000, 9, 7, 255, 7};
        for (int i = 0; i < 8; i++) {
            for (int far : new int[] {-1, most[i] + 1, Integer.MIN_VALUE, Integer.MAX_VALUE}) {
                int[] n = {0, 1, 1, 1, 1, 1, 1, 1};
                n[i] = far;
                due("number " + i + " " + far,
                        x.job(n[0], n[1], n[2], n[3], n[4], n[5], n[6], n[7]), -1);
            }
        }
        due("BAD ones are no jobs", x.count(1), 2);
        for (int i = 2; i < 24; i++) {
            due("job " + i, x.job(i % 6, i, i, i, i % 10, i % 8, i, i % 8), i);
        }
        due("a twenty-fifth", x.job(0, 0, 0, 0, 0, 0, 0, 0), -2);
        due("BAD before NOT", x.job(6, 0, 0, 0, 0, 0, 0, 0), -1);
        due("all wait", x.count(2), 24);
    }

    private static void weights() {
        HostPacker x = withHosts(1, 10);
        due("job", add(x, 0, 4, 0, 0, 0), 0);
        due("points", x.points(0, 0), 26);
        due("was", x.weight(0, 100), 1);
        due("points", x.points(0, 0), 2600);
        due("was", x.weight(0, -100), 100);
        due("points", x.points(0, 0), -2600);
        due("was", x.weight(0, -100), -100);
        for (int far : new int[] {-101, 101, Integer.MIN_VALUE, Integer.MAX_VALUE}) {
            due("w " + far, x.weight(0, far), -1001);
        }
        for (int far : new int[] {-1, 3, Integer.MIN_VALUE, Integer.MAX_VALUE}) {
            due("which " + far, x.weight(far, 0), -1001);
        }
        due("BAD changes nothing", x.weight(0, 0), -100);
        due("points", x.points(0, 0), 0);
    }

    private static void whyFirstReasons() {
        HostPacker x = new HostPacker();
        x.host(5, 5, 5, 0, 6);
        x.job(0, 6, 6, 6, 0, 0, 0, 0);
        x.job(0, 6, 6, 6, 0, 0, 2, 0);
        x.job(0, 6, 6, 6, 0, 0, 6, 0);
        x.job(0, 5, 6, 6, 0, 0, 6, 0);
        x.job(0, 5, 5, 6, 0, 0, 255, 0);
        x.job(0, 5, 5, 5, 0, 0, 6, 0);
        due("no taint tolerated", x.why(0, 0), 2);
        due("one taint tolerated", x.why(1, 0), 2);
        due("first amount", x.why(2, 0), 3);
        due("second amount", x.why(3, 0), 4);
        due("third amount", x.why(4, 0), 5);
        due("just fits", x.why(5, 0), 0);
        x.fall(0);
        due("down", x.why(0, 0), 1);
        due("down", x.why(5, 0), 1);
        x.rise(0);
        due("place", x.place(5), 0);
        due("it stands", x.why(5, 0), -2);
        x.end(5);
        due("it has ended", x.why(5, 0), -2);
        due("no such job", x.why(6, 0), -1);
        due("no such host", x.why(0, 1), -1);
        due("BAD before NOT", x.why(5, 1), -1);
        for (int far : FAR) {
            due("job " + far, x.why(far, 0), -1);
            due("host " + far, x.why(0, far), -1);
        }
    }

    /** Halls 0 (hosts 0, 1), 1 (host 2), 2 (host 3). */
    private static HostPacker threeHalls() {
        HostPacker x = new HostPacker();
        x.host(9, 9, 9, 0, 0);
        x.host(9, 9, 9, 0, 0);
        x.host(9, 9, 9, 1, 0);
        x.host(9, 9, 9, 2, 0);
        return x;
    }

    private static void whySpread() {
        HostPacker x = threeHalls();
        for (int i = 0; i < 4; i++) {
            add(x, 1, 1, 0, 3, 0);
        }
        add(x, 1, 1, 0, 4, 0);
        add(x, 2, 1, 0, 3, 0);
        add(x, 0, 1, 0, 3, 0);
        due("place", x.place(0), 0);
        due("one is in that hall", x.why(1, 0), 6);
        due("the hall counts, not the host", x.why(1, 1), 6);
        due("none there", x.why(1, 2), 0);
        due("another group", x.why(4, 0), 0);
        due("another kind of set", x.why(5, 0), 0);
        due("no set", x.why(6, 0), 0);
        due("place", x.place(1), 2);
        due("hall 2 has none yet", x.why(2, 2), 6);
        x.fall(3);
        due("a host that is down does not count", x.why(2, 1), 0);
        x.rise(3);
        due("place", x.place(2), 3);
        due("even again", x.why(3, 0), 0);
        due("a plain one of the group", x.place(6), 1);
        due("a plain one of the group is none of the set", x.why(3, 0), 0);
        due("gang", x.gang(3), 1);
        due("a gang one of the group is none of the set", x.why(3, 1), 0);
        add(x, 2, 1, 0, 3, 0);
        due("gang ones are spread too", x.why(7, x.told(5, 1)), 6);
    }

    private static void whyCompany() {
        HostPacker x = threeHalls();
        add(x, 4, 0, 0, 1, 2);
        add(x, 5, 0, 0, 1, 2);
        add(x, 0, 0, 0, 2, 0);
        add(x, 0, 0, 0, 1, 0);
        add(x, 4, 0, 0, 5, 5);
        add(x, 4, 0, 0, 5, 5);
        due("nobody to be shy of", x.why(0, 0), 0);
        due("nobody to be drawn to", x.why(1, 0), 7);
        due("place", x.place(2), 0);
        due("shy", x.why(0, 0), 7);
        due("shy looks at the host", x.why(0, 1), 0);
        due("drawn", x.why(1, 0), 0);
        due("drawn looks at the hall", x.why(1, 1), 0);
        due("not in that hall", x.why(1, 2), 7);
        due("move", x.move(2, 3), 0);
        due("gone from there", x.why(1, 0), 7);
        due("place shy", x.place(0), 0);
        due("it scares its other group away", x.move(2, 0), -3);
        due("not from its neighbour", x.move(2, 1), 3);
        add(x, 3, 0, 0, 2, 0);
        due("of any kind", x.why(6, 0), 8);
        due("not others", x.why(3, 0), 0);
        due("place drawn", x.place(1), 1);
        due("a drawn one scares nobody", x.why(6, 1), 0);
        due("end shy", x.end(0), 1);
        due("place one shy of its own group", x.place(4), 0);
        due("7 comes before 8", x.why(5, 0), 7);
    }

    private static void points() {
        HostPacker x = threeHalls();
        due("weight", x.weight(0, 2), 1);
        x.job(0, 2, 3, 4, 0, 1, 0, 3);
        x.job(0, 20, 0, 0, 0, 1, 0, 3);
        add(x, 0, 1, 0, 1, 0);
        add(x, 0, 1, 0, 1, 0);
        add(x, 0, 1, 0, 3, 0);
        due("what would be left, all three", x.points(0, 0), 2 * (27 - 9));
        due("it may not fit", x.points(1, 0), 2 * (27 - 20));
        due("place", x.place(2), 0);
        due("less w1 for one of its group", x.points(0, 0), 2 * (26 - 9) - 10);
        due("not in the hall", x.points(0, 1), 2 * (27 - 9));
        due("place", x.place(3), 1);
        due("place", x.place(4), 2);
        due("a plain one has no other group", x.points(0, 2), 2 * (26 - 9));
        add(x, 4, 0, 0, 0, 1);
        add(x, 5, 0, 0, 0, 1);
        due("shy: those on the host", x.points(5, 0), 2 * 26 + 5);
        due("shy: not those in the hall", x.points(5, 3), 2 * 27);
        due("drawn: those in the hall", x.points(6, 0), 2 * 26 + 2 * 5);
        due("drawn: none in the hall", x.points(6, 2), 2 * 26);
        x.fall(3);
        due("down", x.points(0, 3), 2 * (27 - 9));
        due("stands", x.points(2, 0), -1000002);
        x.end(2);
        due("ended", x.points(2, 0), -1000002);
        due("no such job", x.points(7, 0), -1000001);
        due("no such host", x.points(0, 4), -1000001);
        due("BAD before NOT", x.points(2, 4), -1000001);
        for (int far : FAR) {
            due("job " + far, x.points(far, 0), -1000001);
            due("host " + far, x.points(0, far), -1000001);
        }
    }

    /** Only its own GROUP is taken off: the OTHER group's term has the sign of its weight. */
    private static void pointsOfOthers() {
        for (int kind = 0; kind < 6; kind++) {
            int sign = kind >= 4 ? 1 : 0;
            HostPacker x = new HostPacker();
            x.host(6, 6, 3, 1, 0);
            x.host(6, 6, 3, 1, 0);
            add(x, 0, 0, 0, 0, 0);
            add(x, 0, 0, 0, 7, 0);
            add(x, kind, 0, 0, 0, 7);
            add(x, kind, 0, 0, 7, 7);
            due("place", x.place(0), 0);
            due("place", x.place(1), 0);
            due("one of each group, kind " + kind, x.points(2, 0), 15 - 10 + sign * 5);
            due("own and other are one group", x.points(3, 0), 15 - 10 + sign * 5);
            due("beside them in the hall", x.points(2, 1), 15 + (kind == 5 ? 5 : 0));
            due("w2", x.weight(2, -7), 5);
            due("less by a weight below 0", x.points(2, 0), 15 - 10 - sign * 7);
            due("w1", x.weight(1, -4), 10);
            due("more by a weight below 0", x.points(2, 0), 15 + 4 - sign * 7);
            due("w2", x.weight(2, 100), -7);
            due("w0", x.weight(0, 0), 1);
            due("others alone", x.points(2, 0), 4 + sign * 100);
        }
    }

    private static void left() {
        HostPacker x = new HostPacker();
        x.host(10, 20, 30, 0, 0);
        x.job(0, 1, 2, 3, 0, 0, 0, 0);
        x.job(3, 4, 5, 6, 0, 0, 0, 0);
        due("a job that waits takes nothing", x.left(0, 0), 10);
        x.place(0);
        x.place(1);
        due("first", x.left(0, 0), 5);
        due("second", x.left(0, 1), 13);
        due("third", x.left(0, 2), 21);
        x.end(0);
        due("ended", x.left(0, 0), 6);
        x.fall(0);
        due("down", x.left(0, 2), 30);
        due("i -1", x.left(0, -1), -1);
        due("i 3", x.left(0, 3), -1);
        due("no such host", x.left(1, 0), -1);
        for (int far : FAR) {
            due("host " + far, x.left(far, 0), -1);
            due("i " + far, x.left(0, far), -1);
        }
    }

    private static void told() {
        HostPacker x = withHosts(2, 10);
        x.job(0, 1, 1, 1, 7, 5, 0, 0);
        x.job(3, 1, 1, 1, 9, 6, 0, 0);
        due("waits", x.told(0, 0), 0);
        due("no host", x.told(0, 1), -3);
        due("never placed", x.told(0, 2), -3);
        due("kind", x.told(1, 3), 3);
        due("priority", x.told(0, 4), 7);
        due("group", x.told(0, 5), 5);
        x.place(1);
        x.place(0);
        due("stands", x.told(0, 0), 1);
        due("host", x.told(0, 1), 1);
        due("first placed", x.told(1, 2), 1);
        due("second placed", x.told(0, 2), 2);
        due("move", x.move(0, 0), 1);
        due("moved as the third", x.told(0, 2), 3);
        due("host", x.told(0, 1), 0);
        x.end(0);
        due("ended", x.told(0, 0), 2);
        due("no host any more", x.told(0, 1), -3);
        due("nor a turn", x.told(0, 2), -3);
        due("priority stays", x.told(0, 4), 7);
        due("what 6", x.told(0, 6), -1);
        due("what -1", x.told(0, -1), -1);
        due("no such job", x.told(2, 0), -1);
        for (int far : FAR) {
            due("job " + far, x.told(far, 0), -1);
            due("what " + far, x.told(0, far), -1);
        }
    }

    private static void placeOnBest() {
        HostPacker x = new HostPacker();
        x.host(5, 0, 0, 0, 0);
        x.host(9, 0, 0, 0, 0);
        x.host(9, 0, 0, 0, 0);
        for (int i = 0; i < 4; i++) {
            add(x, 0, 1, 0, 0, 0);
        }
        add(x, 2, 0, 0, 0, 0);
        due("most left, least number", x.place(0), 1);
        due("away from its group", x.place(1), 2);
        due("still away", x.place(2), 0);
        due("w0", x.weight(0, -1), 1);
        due("w1", x.weight(1, 0), 10);
        due("least left", x.place(3), 0);
        due("stands already", x.place(3), -2);
        due("gang ones come by gang()", x.place(4), -2);
        x.end(3);
        due("ended", x.place(3), -2);
        due("no such job", x.place(5), -1);
        for (int far : FAR) {
            due("job " + far, x.place(far), -1);
        }
        add(x, 0, 900, 9, 0, 0);
        due("no host at all", x.place(5), -3);
        due("and so it waits", x.told(5, 0), 0);
    }

    /** Two of the OTHER group are in hall 0 (hosts 0, 1), one is in hall 1 (host 2). */
    private static void placeNearOthers() {
        for (int w2 = -100; w2 <= 100; w2 += 50) {
            HostPacker x = threeHalls();
            for (int i = 0; i < 3; i++) {
                add(x, 0, 1, 0, 3, 0);
                due("place", x.place(i), i);
            }
            add(x, 5, 1, 0, 4, 3);
            add(x, 4, 1, 0, 4, 3);
            x.weight(2, w2);
            due("not among others", x.why(3, 3), 7);
            due("drawn by w2 " + w2, x.place(3), w2 < 0 ? 2 : 0);
            due("shy ones fit beside none of them", x.place(4), 3);
        }
    }

    /** Fills hosts, that hold one job of 6 and one of 4 each, with the priorities told. */
    private static HostPacker filled(int... priorities) {
        HostPacker x = new HostPacker();
        for (int i = 0; i < priorities.length; i++) {
            if (i % 2 == 0) {
                x.host(10, 0, 0, 0, 0);
            }
            int job = add(x, 0, i % 2 == 0 ? 6 : 4, priorities[i], 0, 0);
            due("fill", x.place(job), i / 2);
        }
        return x;
    }

    private static void placeAsking() {
        HostPacker x = filled(4, 1, 3, 3, 2, 3);
        due("job", add(x, 0, 5, 5, 1, 0), 6);
        due("the least of the greatest priorities", x.place(6), 2);
        due("gone", x.gone(), 1);
        due("went", x.told(4, 0), 0);
        due("stays", x.told(5, 0), 1);
        due("stands", x.told(6, 1), 2);

        x = filled(3, 3, 1, 1, 4, 1);
        due("job", add(x, 0, 6, 5, 1, 0), 6);
        due("greatest priority 1 although two go", x.place(6), 1);
        due("gone", x.gone(), 2);

        x = filled(2, 2, 2, 3, 2, 3);
        due("job", add(x, 0, 5, 5, 1, 0), 6);
        due("the fewest, then the least number", x.place(6), 1);
        due("gone", x.gone(), 1);
        due("went", x.told(2, 0), 0);
        due("stays", x.told(3, 0), 1);

        x = filled(2, 2);
        due("same priority", add(x, 0, 4, 2, 1, 0), 2);
        due("only lesser ones go", x.place(2), -3);
        due("lesser", add(x, 0, 4, 3, 1, 0), 3);
        due("the latest placed goes first", x.place(3), 0);
        due("gone", x.gone(), 1);
        due("went", x.told(1, 0), 0);
        due("stays", x.told(0, 0), 1);
        due("too great a job", add(x, 0, 11, 9, 1, 0), 4);
        due("all do not do", x.place(4), -3);
        due("gone is of the latest that told a host", x.gone(), 1);
    }

    private static void placeAskingRules() {
        HostPacker x = withHosts(2, 10);
        due("fixed", add(x, 3, 4, 0, 0, 0), 0);
        due("place", x.place(0), 0);
        due("plain", add(x, 0, 6, 0, 0, 0), 1);
        due("place", x.place(1), 1);
        due("move", x.move(1, 0), 1);
        x.fall(1);
        due("fixed asks nobody", x.place(add(x, 3, 5, 9, 0, 0)), -3);
        due("fixed does not go", x.place(add(x, 0, 7, 9, 0, 0)), -3);
        due("plain goes", x.place(add(x, 0, 5, 9, 0, 0)), 0);
        due("gone", x.gone(), 1);
        due("fixed stays", x.told(0, 0), 1);

        x = withHosts(1, 10);
        add(x, 4, 1, 1, 1, 2);
        add(x, 0, 1, 0, 3, 0);
        due("shy", x.place(0), 0);
        due("another", x.place(1), 0);
        add(x, 0, 1, 5, 2, 0);
        due("scared away", x.why(2, 0), 8);
        due("those before it in the order go too", x.place(2), 0);
        due("gone", x.gone(), 2);

        x = withHosts(1, 10);
        for (int i = 0; i < 3; i++) {
            add(x, 0, 5, 1, 0, 0);
        }
        due("place", x.place(0), 0);
        due("place", x.place(1), 0);
        x.host(10, 10, 10, 0, 0);
        due("move there", x.move(0, 1), 0);
        due("and back", x.move(0, 0), 1);
        x.fall(1);
        add(x, 0, 5, 2, 0, 0);
        due("asks", x.place(3), 0);
        due("the latest moved went", x.told(0, 0), 0);
        due("the other stays", x.told(1, 0), 1);
    }

    private static void gone() {
        HostPacker x = filled(1, 1, 5, 5);
        due("none asked", x.gone(), 0);
        add(x, 0, 10, 3, 0, 0);
        due("place", x.place(4), 0);
        due("two", x.gone(), 2);
        add(x, 2, 0, 0, 0, 0);
        due("gang", x.gang(0), 1);
        due("a gang is no place()", x.gone(), 2);
        due("refused", x.place(0), -3);
        due("of one that told a host", x.gone(), 2);
        add(x, 0, 0, 0, 0, 0);
        due("place", x.place(6), 0);
        due("none", x.gone(), 0);
    }

    private static void gang() {
        HostPacker x = threeHalls();
        add(x, 2, 8, 0, 1, 0);
        add(x, 2, 8, 0, 1, 0);
        add(x, 2, 8, 0, 2, 0);
        add(x, 1, 1, 0, 1, 0);
        due("all stand", x.gang(1), 2);
        due("best host", x.told(0, 1), 0);
        due("best host after it", x.told(1, 1), 2);
        due("in order", x.told(0, 2), 1);
        due("in order", x.told(1, 2), 2);
        due("another group waits", x.told(2, 0), 0);
        due("another kind waits", x.told(3, 0), 0);
        due("none of it waits", x.gang(1), -2);
        due("a set is no gang", x.gang(0), -2);
        add(x, 2, 8, 0, 1, 0);
        add(x, 2, 8, 0, 1, 0);
        add(x, 2, 8, 9, 1, 0);
        int undos = x.count(7);
        due("the last has no host", x.gang(1), -3);
        due("none stands", x.told(4, 0), 0);
        due("none stands", x.told(5, 0), 0);
        due("nothing taken", x.left(3, 0), 9);
        due("nothing to take back", x.count(7), undos);
        x.end(6);
        due("those that wait", x.gang(1), 2);
        due("third", x.told(4, 2), 3);
        due("group 8", x.gang(8), -1);
        due("group -1", x.gang(-1), -1);
        for (int far : FAR) {
            due("group " + far, x.gang(far), -1);
        }
        x = filled(0, 0);
        add(x, 2, 1, 9, 0, 0);
        due("nobody goes", x.gang(0), -3);
    }

    private static void end() {
        HostPacker x = withHosts(1, 10);
        add(x, 0, 1, 0, 0, 0);
        add(x, 3, 1, 0, 0, 0);
        x.place(1);
        due("one that waits", x.end(0), 1);
        due("one that stands", x.end(1), 1);
        due("what it took is left", x.left(0, 0), 10);
        due("ended", x.count(4), 2);
        due("already", x.end(0), -2);
        due("already", x.end(1), -2);
        due("no such job", x.end(2), -1);
        for (int far : FAR) {
            due("job " + far, x.end(far), -1);
        }
    }

    private static void fallAndRise() {
        HostPacker x = withHosts(2, 10);
        add(x, 0, 1, 0, 0, 0);
        add(x, 3, 1, 0, 0, 0);
        add(x, 0, 1, 0, 0, 0);
        add(x, 0, 1, 0, 3, 0);
        x.place(0);
        x.place(1);
        x.place(2);
        x.place(3);
        x.move(0, 1);
        x.move(2, 1);
        x.move(3, 0);
        due("fixed on host 1", x.told(1, 1), 1);
        due("fall", x.fall(1), 2);
        due("waits", x.told(0, 0), 0);
        due("fixed has ended", x.told(1, 0), 2);
        due("waits", x.told(2, 0), 0);
        due("stands elsewhere", x.told(3, 0), 1);
        due("all is left", x.left(1, 0), 10);
        due("up", x.count(5), 1);
        due("it is down", x.fall(1), -2);
        due("no such host", x.fall(2), -1);
        promise = 14;
        due("it is up", x.rise(0), -2);
        due("rise", x.rise(1), 1);
        due("up", x.count(5), 2);
        due("it is up", x.rise(1), -2);
        due("those that waited wait", x.told(0, 0), 0);
        due("it takes jobs again", x.why(0, 1), 0);
        due("no such host", x.rise(2), -1);
        for (int far : FAR) {
            due("fall " + far, x.fall(far), -1);
            due("rise " + far, x.rise(far), -1);
        }
    }

    private static void move() {
        HostPacker x = withHosts(3, 10);
        add(x, 0, 6, 0, 0, 0);
        add(x, 0, 6, 0, 0, 0);
        add(x, 3, 1, 0, 0, 0);
        add(x, 0, 1, 0, 0, 0);
        x.place(0);
        x.place(1);
        x.place(2);
        due("does not fit", x.move(0, 1), -3);
        due("moved", x.move(0, 2), 0);
        due("its host", x.told(0, 1), 2);
        due("left behind", x.left(0, 0), 10);
        due("left there", x.left(2, 0), 3);
        due("its turn", x.told(0, 2), 4);
        due("stands there", x.move(0, 2), -2);
        due("fixed", x.move(2, 0), -2);
        due("waits", x.move(3, 0), -2);
        x.end(3);
        due("ended", x.move(3, 0), -2);
        x.fall(0);
        due("down", x.move(0, 0), -3);
        due("no such job", x.move(4, 0), -1);
        due("no such host", x.move(0, 3), -1);
        due("no host", x.move(0, -1), -1);
        due("BAD before NOT", x.move(3, 9), -1);
        for (int far : FAR) {
            due("job " + far, x.move(far, 0), -1);
            due("host " + far, x.move(0, far), -1);
        }
        x = new HostPacker();
        x.host(9, 9, 9, 0, 0);
        x.host(9, 9, 9, 0, 0);
        x.host(9, 9, 9, 1, 0);
        add(x, 1, 1, 0, 0, 0);
        x.place(0);
        due("as if it waited: it is not in its own way", x.move(0, 1), 0);
        due("nor in the other hall", x.move(0, 2), 1);
        add(x, 5, 0, 0, 2, 2);
        add(x, 0, 0, 0, 2, 0);
        due("place", x.place(2), 0);
        due("drawn", x.place(1), 1);
        due("end", x.end(2), 1);
        due("it does not draw itself", x.move(1, 0), -3);
    }

    private static void safe() {
        HostPacker x = withHosts(3, 10);
        for (int i = 0; i < 3; i++) {
            add(x, 0, 5, 0, i, 0);
            x.place(i);
        }
        due("each finds five", x.safe(), 1);
        due("no worst", x.worst(), -3);
        add(x, 0, 5, 0, 3, 0);
        add(x, 0, 5, 0, 4, 0);
        due("place", x.place(3), 0);
        due("place", x.place(4), 1);
        due("two of five find one place of five", x.safe(), 0);
        due("host 0 is the first", x.worst(), 0);
        due("end", x.end(3), 1);
        due("one of host 0 finds a place, so do two of host 1", x.safe(), 1);
        due("fixed", x.place(add(x, 3, 5, 0, 5, 0)), 0);
        due("not with less left", x.worst(), 1);
        due("nothing has moved", x.told(0, 1), 0);
        due("nothing has fallen", x.count(5), 3);
        due("nothing is taken", x.left(2, 0), 5);
        x.fall(1);
        x.fall(2);
        due("no other host is up", x.worst(), 0);
        x.end(0);
        due("fixed ones need no place", x.safe(), 1);
    }

    private static void safeInSomeOrder() {
        HostPacker x = new HostPacker();
        x.host(10, 0, 0, 0, 0);
        x.host(10, 0, 0, 1, 0);
        add(x, 5, 1, 0, 1, 2);
        add(x, 0, 1, 0, 2, 0);
        due("place", x.place(1), 0);
        due("place", x.place(0), 0);
        due("the drawn one can come second", x.safe(), 1);
        x.end(1);
        due("it has nobody to come after", x.safe(), 0);

        x = new HostPacker();
        x.host(6, 0, 0, 0, 0);
        x.host(3, 0, 0, 1, 0);
        x.host(4, 0, 0, 2, 0);
        due("a", add(x, 0, 2, 0, 0, 0), 0);
        due("b", add(x, 0, 3, 0, 0, 0), 1);
        due("c", add(x, 0, 1, 0, 0, 0), 2);
        due("w1", x.weight(1, 0), 10);
        for (int i = 0; i < 3; i++) {
            due("place", x.place(i), i == 1 ? 0 : i == 0 ? 0 : 2);
        }
        due("not only on the best hosts", x.safe(), 1);

        x = withHosts(2, 20);
        for (int i = 0; i < 5; i++) {
            add(x, 0, 1, 0, 0, 0);
            x.place(i);
            x.move(i, 0);
        }
        due("five on one", x.safe(), -4);
        due("five on one", x.worst(), -4);
        x.end(0);
        due("four", x.safe(), 1);
        due("fixed", x.weight(1, 0), 10);
        due("fixed", x.weight(0, -1), 1);
        due("fixed", x.place(add(x, 3, 1, 0, 0, 0)), 0);
        due("fixed ones are not such jobs", x.safe(), 1);
        due("GREAT comes before an unsafe host", x.place(add(x, 0, 11, 0, 0, 0)), 0);
        due("five again", x.safe(), -4);
    }

    private static void safeWithoutTheFallen() {
        HostPacker x = new HostPacker();
        x.host(10, 0, 0, 0, 0);
        x.host(10, 0, 0, 1, 0);
        add(x, 1, 1, 0, 0, 0);
        add(x, 1, 1, 0, 0, 0);
        due("place", x.place(0), 0);
        due("place", x.place(1), 1);
        due("a fallen host's hall does not count", x.safe(), 1);
        x.host(1, 0, 0, 0, 0);
        due("another host of that hall is full for it", x.place(add(x, 0, 1, 0, 1, 0)), 0);
        due("move", x.move(2, 2), 0);
        due("now the hall counts: hall 1 would have two", x.worst(), 0);

        x = new HostPacker();
        x.host(10, 0, 0, 0, 0);
        x.host(10, 0, 0, 0, 0);
        add(x, 3, 1, 0, 2, 0);
        add(x, 5, 1, 0, 1, 2);
        due("fixed", x.place(0), 0);
        due("drawn to it", x.place(1), 1);
        due("its host may fall", x.worst(), -3);
        due("beside it", x.move(1, 0), 1);
        due("the fixed one has ended by then", x.worst(), 0);
    }

    private static void targets() {
        HostPacker x = withHosts(2, 10);
        add(x, 0, 1, 0, 0, 0);
        add(x, 3, 1, 0, 0, 0);
        due("first", x.target(0, 1), 1);
        due("again", x.target(0, 0), 1);
        due("of any job", x.target(1, 0), 2);
        due("none", x.target(0, -1), 1);
        due("none again", x.target(0, -1), 1);
        x.place(1);
        x.end(1);
        due("they stay", x.count(6), 1);
        due("no such host", x.target(0, 2), -1);
        due("no such host", x.target(0, -2), -1);
        due("no such job", x.target(2, 0), -1);
        due("no such job", x.target(-1, 0), -1);
        due("BAD changes nothing", x.count(6), 1);
        for (int far : FAR) {
            due("job " + far, x.target(far, 0), -1);
            due("host " + far, x.target(0, far), -1);
        }
    }

    private static void plans() {
        HostPacker x = withHosts(3, 10);
        due("no targets", x.plan(), 0);
        add(x, 0, 6, 0, 0, 0);
        add(x, 0, 6, 0, 1, 0);
        add(x, 3, 1, 0, 2, 0);
        x.place(0);
        x.place(1);
        x.target(0, 0);
        due("there already", x.plan(), 0);
        x.target(0, 1);
        x.target(1, 0);
        due("by way of host 2", x.plan(), 3);
        steps(x, 0, 2, 1, 0, 0, 1);
        due("nothing has moved", x.told(0, 1), 0);
        x.target(0, 2);
        x.target(1, 0);
        due("in an order that fits", x.plan(), 2);
        steps(x, 0, 2, 1, 0);
        x.target(1, -1);
        x.target(0, 1);
        due("the one in the way has no target", x.plan(), -3);
        steps(x, 0, 2, 1, 0);
        x.target(2, 0);
        due("a target of one that waits", x.plan(), -2);
        x.place(2);
        due("of a fixed one", x.plan(), -2);
        x.end(2);
        due("of an ended one", x.plan(), -2);
        x.target(2, -1);
        x.fall(2);
        x.target(0, 2);
        due("to a host that is down", x.plan(), -3);
    }

    private static void plansInOrder() {
        HostPacker x = withHosts(4, 10);
        for (int i = 0; i < 5; i++) {
            add(x, 0, 1, 0, i, 0);
            x.place(i);
        }
        due("fifth beside the first", x.told(4, 1), 0);
        x.target(3, 0);
        x.target(1, 2);
        due("lesser jobs first", x.plan(), 2);
        steps(x, 1, 2, 3, 0);
        x.target(0, 3);
        x.target(2, 1);
        due("four targets", x.plan(), 4);
        steps(x, 0, 3, 1, 2, 2, 1, 3, 0);
        x.target(4, 0);
        due("five targets", x.plan(), -4);
        x.end(4);
        due("NOT before GREAT", x.plan(), -2);

        x = withHosts(4, 10);
        add(x, 0, 6, 0, 0, 0);
        add(x, 0, 6, 0, 1, 0);
        x.place(0);
        x.place(1);
        x.target(0, 1);
        x.target(1, 0);
        due("a swap", x.plan(), 3);
        steps(x, 0, 2, 1, 0, 0, 1);
    }

    private static void plansAtTheLimit() {
        for (int nine = 0; nine < 2; nine++) {
            HostPacker x = new HostPacker();
            x.host(4, 0, 0, 0, 1);
            x.host(4, 0, 0, 0, 2);
            x.host(3, 0, 0, 0, 4);
            x.job(0, 1, 0, 0, 0, 0, 7, 0);
            x.job(0, 3, 0, 0, 0, 0, 7, 0);
            x.job(0, 2, 0, 0, 0, 0, 7, 0);
            x.job(0, 2, 0, 0, 0, 0, 7, 0);
            due("place", x.place(0), 0);
            due("place", x.place(1), 1);
            due("place", x.place(2), 2);
            due("place", x.place(3), 0);
            x.target(0, 2);
            x.target(1, 0);
            x.target(2, 1);
            x.target(3, nine == 1 ? 2 : 1);
            if (nine == 1) {
                due("nine moves", x.plan(), -3);
            } else {
                due("eight moves", x.plan(), 8);
                steps(x, 0, 1, 2, 0, 1, 2, 2, 1, 0, 0, 3, 1, 1, 0, 0, 2);
            }
        }
    }

    private static void step() {
        HostPacker x = withHosts(3, 10);
        add(x, 0, 1, 0, 0, 0);
        x.place(0);
        x.target(0, 2);
        due("before any plan", x.step(0, 0), -1);
        due("plan", x.plan(), 1);
        due("job", x.step(0, 0), 0);
        due("host", x.step(0, 1), 2);
        due("what 2", x.step(0, 2), -1);
        due("what -1", x.step(0, -1), -1);
        due("i 1", x.step(1, 0), -1);
        due("i -1", x.step(-1, 0), -1);
        for (int far : FAR) {
            due("i " + far, x.step(far, 0), -1);
            due("what " + far, x.step(0, far), -1);
        }
        x.end(0);
        due("refused", x.plan(), -2);
        due("the latest that told how many", x.step(0, 1), 2);
        due("undo", x.undo(), x.count(7));
        due("still", x.step(0, 1), 2);
        x.target(0, -1);
        due("none to move", x.plan(), 0);
        due("no move", x.step(0, 0), -1);
    }

    private static void fewest() {
        HostPacker x = withHosts(4, 10);
        due("none stands", x.fewest(), 0);
        for (int i = 0; i < 4; i++) {
            add(x, 0, 5, 0, 0, 0);
            x.place(i);
        }
        due("two a host", x.fewest(), 2);
        due("nothing has moved", x.told(3, 1), 3);
        due("nothing is taken", x.left(3, 0), 5);
        due("fixed", x.place(add(x, 3, 5, 0, 0, 0)), 0);
        due("beside a fixed one", x.fewest(), 2);
        for (int i = 1; i < 4; i++) {
            due("fixed", x.place(add(x, 3, 5, 0, 0, 0)), i);
        }
        due("one a host", x.fewest(), 4);
        due("a fifth", x.place(add(x, 0, 0, 0, 0, 0)), 0);
        due("five", x.fewest(), 4);
        due("a sixth", x.place(add(x, 0, 0, 0, 0, 0)), 1);
        due("six", x.fewest(), -4);

        x = withHosts(3, 10);
        add(x, 0, 5, 0, 0, 0);
        add(x, 5, 5, 0, 1, 0);
        add(x, 3, 10, 0, 2, 0);
        due("place", x.place(0), 0);
        due("place", x.place(1), 1);
        due("end", x.end(0), 1);
        due("nobody to be drawn to", x.fewest(), -3);
        add(x, 0, 5, 0, 0, 0);
        due("place", x.place(3), 0);
        due("not in order of numbers", x.fewest(), -3);
        x.fall(1);
        due("place", x.place(1), 2);
        due("fewest looks at numbers, not at turns", x.fewest(), -3);
        x.end(1);
        due("one", x.fewest(), 1);
        due("fixed", x.place(2), 2);
        due("hosts of fixed ones alone do not count", x.fewest(), 1);
    }

    private static void wouldByTaint() {
        HostPacker x = new HostPacker();
        x.host(5, 5, 5, 0, 3);
        x.host(5, 5, 5, 0, 4);
        x.host(5, 5, 5, 0, 2);
        x.host(5, 5, 5, 0, 1);
        x.host(5, 5, 5, 0, 1);
        x.fall(3);
        add(x, 0, 5, 0, 0, 0);
        would(x, 0, 1, 0, 4, 0);
        x.fall(4);
        would(x, 0, 1, 1, 2, 0);
        x.fall(2);
        would(x, 0, 1, 2, 1, 0);
        x.fall(1);
        due("two taints are two changes", x.would(0, 0), -3);
        due("fits with one tolerated", x.job(0, 5, 5, 5, 0, 0, 1, 0), 1);
        would(x, 1, 1, 1, 0, 0);
        due("the job is as it was", x.why(1, 0), 2);
        x.rise(1);
        due("a great one", x.job(0, 6, 5, 5, 0, 0, 4, 0), 2);
        would(x, 2, 2, 0, 1, 1);
    }

    private static void wouldByAmount() {
        HostPacker x = new HostPacker();
        x.host(5, 5, 5, 0, 0);
        x.host(9, 6, 9, 0, 0);
        x.host(9, 9, 7, 0, 0);
        x.host(9, 9, 7, 0, 0);
        due("job", x.job(0, 9, 9, 9, 9, 0, 0, 0), 0);
        would(x, 0, 2, 2, 2, 2);
        due("it asks as before", x.why(0, 2), 5);
        x.fall(2);
        would(x, 0, 2, 2, 3, 2);
        x.fall(3);
        would(x, 0, 2, 1, 1, 3);
        x.fall(1);
        due("more than one amount", x.would(0, 0), -3);
        x.rise(1);
        due("fill", x.place(add(x, 0, 9, 0, 0, 0)), 1);
        due("more than one amount, and one gone is not enough", x.would(0, 0), -3);
    }

    private static void wouldByGoing() {
        HostPacker x = new HostPacker();
        x.host(10, 10, 10, 0, 0);
        x.host(10, 10, 10, 1, 0);
        due("fixed, priority 9", x.job(3, 8, 8, 0, 9, 0, 0, 0), 0);
        due("plain", x.job(0, 8, 8, 0, 9, 0, 0, 0), 1);
        due("place", x.place(1), 0);
        due("place", x.place(0), 1);
        due("asks two amounts", x.job(0, 8, 8, 0, 0, 1, 0, 0), 2);
        would(x, 2, 3, 0, 1, 0);
        x.end(0);
        due("fits", x.would(2, 0), -2);

        x = new HostPacker();
        x.host(9, 9, 9, 0, 0);
        x.host(9, 9, 9, 0, 0);
        x.host(1, 1, 1, 1, 0);
        add(x, 1, 2, 0, 0, 0);
        add(x, 1, 2, 0, 0, 0);
        due("place", x.place(0), 0);
        due("the other hall has room for too little", x.why(1, 0), 6);
        would(x, 1, 2, 0, 2, 1);
        due("fill", x.place(x.job(0, 1, 1, 1, 0, 5, 0, 0)), 1);
        due("move", x.move(2, 2), 1);
        due("asks two amounts", x.job(1, 1, 1, 0, 0, 0, 0, 0), 3);
        would(x, 3, 3, 0, 0, 0);
    }

    private static void wouldRefuses() {
        HostPacker x = withHosts(1, 5);
        add(x, 0, 5, 0, 0, 0);
        add(x, 0, 6, 0, 0, 0);
        due("fits", x.would(0, 0), -2);
        x.place(0);
        due("stands", x.would(0, 0), -2);
        x.end(0);
        due("ended", x.would(0, 0), -2);
        due("what 4", x.would(1, 4), -1);
        due("what -1", x.would(1, -1), -1);
        due("no such job", x.would(2, 0), -1);
        due("BAD before NOT", x.would(0, 4), -1);
        for (int far : FAR) {
            due("job " + far, x.would(far, 0), -1);
            due("what " + far, x.would(1, far), -1);
        }
        x.fall(0);
        for (int what = 0; what < 4; what++) {
            due("only up hosts", x.would(1, what), -3);
        }
        add(x, 2, 6, 0, 0, 0);
        x.rise(0);
        would(x, 2, 2, 0, 0, 1);
        due("no host at all", withHosts(0, 0).would(0, 0), -1);
    }

    private static void undoEach() {
        HostPacker x = new HostPacker();
        x.host(10, 10, 10, 0, 0);
        x.host(10, 10, 10, 0, 0);
        add(x, 0, 6, 1, 0, 0);
        add(x, 2, 1, 1, 1, 0);
        add(x, 3, 1, 1, 1, 0);
        x.place(0);
        x.place(2);
        due("weight", x.weight(1, 3), 10);
        due("undo", x.undo(), 7);
        due("weight is back", x.weight(1, 10), 10);
        due("gang", x.gang(1), 1);
        due("undo", x.undo(), 8);
        due("gang waits", x.told(1, 0), 0);
        due("end", x.end(0), 1);
        due("undo", x.undo(), 8);
        due("stands", x.told(0, 1), 0);
        due("takes", x.left(0, 0), 4);
        due("fall", x.fall(1), 0);
        due("undo", x.undo(), 8);
        due("up", x.count(5), 2);
        due("fixed stands", x.told(2, 1), 1);
        due("fall", x.fall(0), 1);
        due("rise", x.rise(0), 1);
        due("undo", x.undo(), 9);
        due("down", x.rise(1), -2);
        due("down", x.count(5), 1);
        due("undo", x.undo(), 8);
        due("turn is back", x.told(0, 2), 1);
        due("move", x.move(0, 1), 0);
        due("undo", x.undo(), 8);
        due("host is back", x.told(0, 1), 0);
        due("turn is back", x.told(0, 2), 1);
        due("target", x.target(0, 1), 1);
        due("undo", x.undo(), 8);
        due("target", x.count(6), 0);
        x.fall(1);
        add(x, 0, 9, 5, 0, 0);
        due("asking", x.place(3), 0);
        due("went", x.told(0, 0), 0);
        due("undo", x.undo(), 10);
        due("stands again", x.told(0, 1), 0);
        due("as before", x.told(0, 2), 1);
        due("waits again", x.told(3, 0), 0);
        due("undo job", x.undo(), 9);
        due("no such job", x.told(3, 0), -1);
        due("another job", add(x, 4, 2, 0, 7, 7), 3);
        due("is another", x.told(3, 3), 4);
        due("undo", x.undo(), 9);
        due("undo fall", x.undo(), 8);
        due("undo weight", x.undo(), 7);
        due("undo place", x.undo(), 6);
        due("the next is placed second again", x.place(2), 1);
        due("turn", x.told(2, 2), 2);
    }

    private static void undoMany() {
        HostPacker x = new HostPacker();
        x.host(10, 10, 10, 0, 0);
        for (int i = 1; i <= 40; i++) {
            due("weight", x.weight(0, i), i == 1 ? 1 : i - 1);
            due("kept", x.count(7), Math.min(30, i + 1));
        }
        due("refused calls are not kept", x.weight(0, 101), -1001);
        due("refused calls are not kept", x.rise(0), -2);
        for (int i = 29; i >= 0; i--) {
            due("undo", x.undo(), i);
        }
        due("no more", x.undo(), -2);
        due("thirty back", x.weight(0, 0), 10);
        due("one", x.count(7), 1);
        due("undo", x.undo(), 0);
        due("none twice", x.undo(), -2);

        x = new HostPacker();
        x.host(10, 10, 10, 0, 0);
        due("undo host", x.undo(), 0);
        due("no host", x.count(0), 0);
        due("no such host", x.left(0, 0), -1);
        due("a new one", x.host(7, 0, 0, 1, 0), 0);
        due("left", x.left(0, 0), 7);
    }

    private static void count() {
        HostPacker x = withHosts(3, 10);
        for (int i = 0; i < 6; i++) {
            add(x, 0, 1, 0, i, 0);
        }
        x.place(0);
        x.place(1);
        x.end(1);
        x.end(2);
        x.end(3);
        x.fall(2);
        x.target(0, 0);
        x.target(4, 0);
        due("hosts", x.count(0), 3);
        due("jobs", x.count(1), 6);
        due("wait", x.count(2), 2);
        due("stand", x.count(3), 1);
        due("ended", x.count(4), 3);
        due("up", x.count(5), 2);
        due("targets", x.count(6), 2);
        due("undo", x.count(7), 17);
        due("what 8", x.count(8), -1);
        due("what -1", x.count(-1), -1);
        for (int far : FAR) {
            due("what " + far, x.count(far), -1);
        }
    }

    public static void main(String[] args) {
        promise = 1;
        newObject();
        promise = 2;
        hosts();
        promise = 3;
        jobs();
        promise = 4;
        weights();
        promise = 5;
        whyFirstReasons();
        whySpread();
        whyCompany();
        promise = 6;
        points();
        pointsOfOthers();
        promise = 7;
        left();
        promise = 8;
        told();
        promise = 9;
        placeOnBest();
        placeNearOthers();
        placeAsking();
        placeAskingRules();
        promise = 10;
        gone();
        promise = 11;
        gang();
        promise = 12;
        end();
        promise = 13;
        fallAndRise();
        promise = 15;
        move();
        promise = 16;
        safe();
        promise = 17;
        safeInSomeOrder();
        safeWithoutTheFallen();
        promise = 18;
        targets();
        promise = 19;
        plans();
        plansInOrder();
        plansAtTheLimit();
        promise = 20;
        step();
        promise = 21;
        fewest();
        promise = 22;
        wouldByTaint();
        wouldByAmount();
        wouldByGoing();
        wouldRefuses();
        promise = 23;
        undoEach();
        undoMany();
        promise = 24;
        count();
        Check.close();
    }
}
