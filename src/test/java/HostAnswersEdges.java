/** Promises 5 to 8, what is told of hosts and jobs, with WHY, LEFT and POINTS of the terms. */
final class HostAnswersEdges {
    private static final int BAD = -1, NOT = -2, NONE = -3;

    private HostAnswersEdges() {
    }

    static void check() {
        whyNumbers();
        whyDown();
        whyTaints();
        whyAmounts();
        whySpread();
        whySpreadOverUpHosts();
        whySpreadOfWhom();
        whyShy();
        whyDrawn();
        whyScaredAway();
        whyFirst();
        leftEdges();
        pointsNumbers();
        pointsOfLeft();
        pointsOfGroup();
        pointsOfOther();
        toldNumbers();
        toldStates();
        toldTurns();
    }

    private static void whyNumbers() {
        Check.says(5, "WHY a JOB does not FIT on a HOST (0: it does)");
        HostPacker x = Make.many(10, 5);
        for (int job = 0; job < 24; job++) {
            Make.plain(x, job == 23 ? 6 : 5, 0);
        }
        Check.due("the first of each", x.why(0, 0), 0);
        Check.due("the last of each", x.why(23, 9), 3);
        Check.due("the last host", x.why(22, 9), 0);

        Check.says(5, "BAD");
        for (int wrong : Make.outside(0, 23)) {
            Check.due("job " + wrong, x.why(wrong, 0), BAD);
        }
        for (int wrong : Make.outside(0, 9)) {
            Check.due("host " + wrong, x.why(0, wrong), BAD);
        }
        x = Make.many(2, 5);
        Make.plain(x, 5, 0);
        Check.due("the first job that is not there", x.why(1, 0), BAD);
        Check.due("the first host that is not there", x.why(0, 2), BAD);

        Check.says(5, "NOT: it does not WAIT");
        Check.due("it stands", x.place(0), 0);
        Check.due("where it stands", x.why(0, 0), NOT);
        Check.due("elsewhere", x.why(0, 1), NOT);
        Check.due("BAD before NOT", x.why(0, 2), BAD);
        x.fall(0);
        Check.due("it waits again", x.why(0, 1), 0);
        x.end(0);
        Check.due("it has ended", x.why(0, 1), NOT);
    }

    private static void whyDown() {
        Check.says(0, "1 it is DOWN");
        HostPacker x = Make.many(2, 5);
        Make.plain(x, 5, 0);
        x.fall(1);
        Check.due("down", x.why(0, 1), 1);
        Check.due("up", x.why(0, 0), 0);
        x.rise(1);
        Check.due("up again", x.why(0, 1), 0);
    }

    private static void whyTaints() {
        Check.says(0, "2 it has a TAINT that is not TOLERATED");
        HostPacker x = new HostPacker();
        x.host(5, 5, 5, 0, 0);
        x.host(5, 5, 5, 0, 129);
        int[] tolerated = {0, 1, 128, 126, 129, 255, 127, 254};
        int[] why = {2, 2, 2, 2, 0, 0, 2, 2};
        for (int job = 0; job < tolerated.length; job++) {
            Make.plain(x, 5, tolerated[job]);
            Check.due("two taints, tolerated " + tolerated[job], x.why(job, 1), why[job]);
            Check.due("no taint, tolerated " + tolerated[job], x.why(job, 0), 0);
        }
    }

    private static void whyAmounts() {
        Check.says(0, "3, 4, 5 the first, second, third AMOUNT asked is more than what is LEFT");
        HostPacker x = new HostPacker();
        x.host(5, 6, 7, 0, 0);
        x.host(0, 0, 0, 0, 0);
        int[][] asks = {{5, 6, 7}, {6, 6, 7}, {5, 7, 7}, {5, 6, 8}, {6, 7, 8}, {5, 7, 8}, {0, 0, 0}};
        int[] why = {0, 3, 4, 5, 3, 4, 0};
        for (int job = 0; job < asks.length; job++) {
            x.job(0, asks[job][0], asks[job][1], asks[job][2], 0, 0, 0, 0);
            Check.due("asks " + job, x.why(job, 0), why[job]);
        }
        Check.due("nothing of nothing", x.why(6, 1), 0);
        Check.due("something of nothing", x.why(0, 1), 3);
        Check.due("takes all", x.place(0), 0);
        Check.due("nothing is left", x.why(6, 0), 0);
        x.job(0, 0, 0, 1, 0, 0, 0, 0);
        Check.due("one of the third is too much", x.why(7, 0), 5);
        x.end(0);
        Check.due("it is what is left that counts", x.why(7, 0), 0);
    }

    private static final String SPREAD = "6 (SET, GANG) as many of its KIND and GROUP STAND in that HALL, and it, "
            + "are more than one more than those in the HALL of some UP HOST (as they STAND)";

    private static void whySpread() {
        Check.says(0, SPREAD);
        HostPacker x = Make.halls(0, 1, 0);
        int[] set = new int[5];
        for (int i = 0; i < 5; i++) {
            set[i] = Make.job(x, 1, 0, 0, 2, 0, Make.ANY);
        }
        Check.due("one against none is one more", x.why(set[0], 0), 0);
        Make.put(x, set[0], 0);
        Check.due("two against none", x.why(set[1], 0), 6);
        Check.due("on another host of the hall", x.why(set[1], 2), 6);
        Check.due("one against one", x.why(set[1], 1), 0);
        Make.put(x, set[1], 1);
        Check.due("two against one", x.why(set[2], 2), 0);
        Make.put(x, set[2], 2);
        Check.due("three against one", x.why(set[3], 0), 6);
        Check.due("two against two", x.why(set[3], 1), 0);
        x.end(set[0]);
        Check.due("who has ended does not count", x.why(set[3], 0), 0);
        Make.put(x, set[3], 0);
        Check.due("three against one", x.why(set[4], 2), 6);
        Check.due("moved as if it waited", x.move(set[1], 0), NONE);
        Check.due("moved as if it waited", x.move(set[3], 2), 0);
    }

    private static void whySpreadOverUpHosts() {
        Check.says(0, SPREAD);
        HostPacker x = Make.halls(0, 1, 2, 2);
        Make.standing(x, 1, 0, 0, 2, 0, 0);
        Make.standing(x, 1, 0, 0, 2, 0, 1);
        int set = Make.job(x, 1, 0, 0, 2, 0, Make.ANY);
        Check.due("hall 2 has none", x.why(set, 0), 6);
        x.fall(2);
        Check.due("hall 2 has one host that is up", x.why(set, 0), 6);
        x.fall(3);
        Check.due("hall 2 has no host that is up", x.why(set, 0), 0);
        x.rise(2);
        Check.due("it has one again", x.why(set, 1), 6);
        Check.due("and room for one", x.why(set, 2), 0);
        for (int lacks = 0; lacks < 10; lacks++) {
            x = new HostPacker();
            for (int host = 0; host < 10; host++) {
                x.host(9, 9, 9, host == lacks ? 4 : 3, 0);
            }
            set = Make.job(x, 1, 0, 0, 2, 0, 0);
            Make.put(x, Make.job(x, 1, 0, 0, 2, 0, 0), lacks == 0 ? 1 : 0);
            Check.due("none in the hall of host " + lacks, x.why(set, 5), lacks == 5 ? 0 : 6);
            Check.due("room for one on host " + lacks, x.why(set, lacks), 0);
        }
        x = Make.halls(3);
        for (int i = 0; i < 5; i++) {
            Make.standing(x, 1, 0, 0, 2, 0, 0);
        }
        Check.due("halls without a host do not count", x.told(4, 1), 0);
        Make.host(x, 0, 4);
        Make.job(x, 1, 1, 0, 2, 0, Make.on(0));
        Check.due("a host without room counts", x.why(5, 0), 6);
    }

    private static void whySpreadOfWhom() {
        Check.says(0, SPREAD);
        for (int kind = 0; kind < 6; kind++) {
            HostPacker x = Make.halls(0, 1);
            Make.standing(x, 1, 0, 0, 2, 0, 0);
            int job = Make.job(x, kind, 0, 0, 2, kind == 5 ? 2 : 3, Make.ANY);
            Check.due("a set there, and kind " + kind, x.why(job, 0), kind == 1 ? 6 : 0);
        }
        for (int kind = 0; kind < 6; kind++) {
            HostPacker x = Make.halls(0, 1);
            Make.job(x, 2, 0, 0, 2, 0, Make.on(0));
            Check.due("a gang", x.gang(2), 1);
            int job = Make.job(x, kind, 0, 0, 2, kind == 5 ? 2 : 3, Make.ANY);
            Check.due("a gang there, and kind " + kind, x.why(job, 0), kind == 2 ? 6 : 0);
            Check.due("of another group", x.why(Make.job(x, 2, 0, 0, 3, 3, Make.ANY), 0), 0);
        }
        HostPacker x = Make.halls(0, 1);
        Make.standing(x, 1, 0, 0, 2, 0, 0);
        Check.due("a set of another group", x.why(Make.job(x, 1, 0, 0, 3, 2, Make.ANY), 0), 0);
    }

    private static void whyShy() {
        Check.says(0, "7 (SHY, DRAWN) a JOB of its OTHER group STANDS on that HOST");
        for (int kind = 0; kind < 6; kind++) {
            HostPacker x = Make.halls(0, 0);
            int shy = Make.job(x, 4, 0, 0, 1, 2, Make.ANY);
            int other = Make.job(x, kind, 0, 0, 2, 7, Make.on(0));
            if (kind == 5) {
                Make.standing(x, 0, 0, 0, 7, 0, 0);
            }
            Check.due("one that waits", x.why(shy, 0), 0);
            Check.due("stands", kind == 2 ? x.gang(2) - 1 : x.place(other), 0);
            Check.due("one of kind " + kind, x.why(shy, 0), 7);
            Check.due("on that host, not in that hall", x.why(shy, 1), 0);
            x.end(other);
            Check.due("one that has ended", x.why(shy, 0), 0);
            Make.standing(x, 0, 0, 0, 1, 0, 0);
            Check.due("one of its own group", x.why(shy, 0), 0);
        }
        HostPacker x = Make.halls(0);
        int own = Make.job(x, 4, 0, 0, 3, 3, Make.ANY);
        Check.due("its own group is its other", x.why(own, 0), 0);
        Make.standing(x, 0, 0, 0, 3, 0, 0);
        Check.due("one of it", x.why(own, 0), 7);
    }

    private static void whyDrawn() {
        Check.says(0, "but of DRAWN ones: in that HALL there is none");
        HostPacker x = Make.halls(0, 1, 0);
        int drawn = Make.job(x, 5, 0, 0, 1, 2, Make.ANY);
        Check.due("none", x.why(drawn, 0), 7);
        Make.standing(x, 0, 0, 0, 1, 0, 0);
        Check.due("one of its own group", x.why(drawn, 0), 7);
        int other = Make.standing(x, 0, 0, 0, 2, 0, 0);
        Check.due("on that host", x.why(drawn, 0), 0);
        Check.due("in that hall", x.why(drawn, 2), 0);
        Check.due("in another hall", x.why(drawn, 1), 7);
        Make.standing(x, 0, 0, 0, 2, 0, 2);
        Check.due("two", x.why(drawn, 0), 0);
        x.end(other);
        Check.due("one of two", x.why(drawn, 0), 0);
        x.fall(2);
        Check.due("none that stands", x.why(drawn, 0), 7);
        x = Make.halls(0);
        int own = Make.job(x, 5, 0, 0, 3, 3, Make.ANY);
        Check.due("its own group is its other", x.why(own, 0), 7);
        Make.standing(x, 0, 0, 0, 3, 0, 0);
        Check.due("one of it", x.why(own, 0), 0);
    }

    private static void whyScaredAway() {
        Check.says(0, "8 a SHY one (no DRAWN one) STANDS there whose OTHER group is its GROUP");
        HostPacker x = Make.halls(0, 0);
        int shy = Make.job(x, 4, 0, 0, 1, 2, Make.on(0));
        Check.due("one that waits scares nobody", x.why(Make.job(x, 0, 0, 0, 2, 0, Make.ANY), 0), 0);
        Check.due("stands", x.place(shy), 0);
        for (int kind = 0; kind < 6; kind++) {
            int other = kind == 5 ? 1 : 7;
            int job = Make.job(x, kind, 0, 0, 2, other, Make.ANY);
            Check.due("of kind " + kind, x.why(job, 0), 8);
            Check.due("on another host of the hall", x.why(job, 1), 0);
            int another = Make.job(x, kind, 0, 0, 3, other, Make.ANY);
            Check.due("of another group", x.why(another, 0), 0);
        }
        Check.due("its own group", x.why(Make.job(x, 0, 0, 0, 1, 0, Make.ANY), 0), 0);
        x.end(shy);
        Check.due("one that has ended", x.why(1, 0), 0);

        x = Make.halls(0, 0);
        Make.standing(x, 0, 0, 0, 2, 0, 1);
        Make.standing(x, 5, 0, 0, 1, 2, 0);
        Check.due("a drawn one", x.why(Make.job(x, 0, 0, 0, 2, 0, Make.ANY), 0), 0);
        Make.standing(x, 4, 0, 0, 6, 5, 0);
        Make.standing(x, 4, 0, 0, 6, 5, 0);
        int scared = Make.job(x, 0, 0, 0, 5, 0, Make.ANY);
        Check.due("two shy ones", x.why(scared, 0), 8);
        x.end(3);
        Check.due("one of two", x.why(scared, 0), 8);
        x.end(4);
        Check.due("none", x.why(scared, 0), 0);
        x.undo();
        Check.due("one again", x.why(scared, 0), 8);
        x.undo();
        x.undo();
        x.undo();
        Check.due("its placing is undone", x.why(Make.job(x, 0, 0, 0, 5, 0, Make.ANY), 0), 8);
        x.undo();
        x.undo();
        x.undo();
        Check.due("that of both", x.why(Make.job(x, 0, 0, 0, 5, 0, Make.ANY), 0), 0);
    }

    private static void whyFirst() {
        Check.says(0, "WHY a JOB that WAITS does not FIT on a HOST, the first of");
        HostPacker x = new HostPacker();
        x.host(5, 5, 5, 0, 1);
        x.host(5, 5, 5, 1, 0);
        x.host(5, 5, 5, 0, 2);
        int shy = Make.job(x, 4, 0, 0, 5, 1, 1);
        Check.due("a shy one", x.place(shy), 0);
        int even = Make.job(x, 1, 0, 0, 1, 0, 2);
        x.fall(1);
        Check.due("a set in that hall", x.place(even), 2);
        x.rise(1);
        int[][] asks = {{6, 6, 6, 0}, {6, 6, 6, 1}, {5, 6, 6, 1}, {5, 5, 6, 1}, {5, 5, 5, 1}};
        for (int i = 0; i < asks.length; i++) {
            int job = x.job(1, asks[i][0], asks[i][1], asks[i][2], 0, 1, asks[i][3], 0);
            Check.due("all from " + (2 + i) + " to 6, and 8", x.why(job, 0), 2 + i);
        }
        Check.due("8 alone", x.why(x.job(0, 5, 5, 5, 0, 1, 1, 0), 0), 8);
        Check.due("7 and 8", x.why(x.job(4, 5, 5, 5, 0, 1, 1, 5), 0), 7);
        Check.due("7 and 8 of a drawn one", x.why(x.job(5, 5, 5, 5, 0, 1, 1, 6), 0), 7);
        Check.due("5, 7 and 8", x.why(x.job(4, 5, 5, 6, 0, 1, 1, 5), 0), 5);
        x.fall(0);
        Check.due("1 and all that are left", x.why(2, 0), 1);

        Check.says(0, "It FITS, if there is none");
        x.rise(0);
        x.fall(1);
        Check.due("nobody is shy, and no other hall up", x.why(6, 0), 0);
    }

    private static void leftEdges() {
        Check.says(0, "LEFT of a HOST: its AMOUNTS, less those of all JOBS that STAND on it");
        Check.says(7, "What is LEFT of AMOUNT i (0 .. 2) of a HOST");
        HostPacker x = new HostPacker();
        x.host(1000, 999, 10, 0, 1);
        x.host(7, 8, 9, 0, 2);
        x.job(0, 1000, 998, 4, 0, 0, 3, 0);
        x.job(3, 0, 1, 5, 0, 0, 1, 0);
        x.job(0, 0, 0, 1, 0, 0, 3, 0);
        Check.due("one that waits takes nothing", x.left(0, 0), 1000);
        Make.put(x, 0, 0);
        Make.put(x, 1, 0);
        Check.due("nothing is left of the first", x.left(0, 0), 0);
        Check.due("nor of the second", x.left(0, 1), 0);
        Check.due("one of the third", x.left(0, 2), 1);
        Make.put(x, 2, 0);
        Check.due("nothing", x.left(0, 2), 0);
        Check.due("another host", x.left(1, 2), 9);
        Check.due("move", x.move(2, 1), 0);
        Check.due("one is left behind", x.left(0, 2), 1);
        Check.due("and missed there", x.left(1, 2), 8);
        x.end(0);
        Check.due("one that has ended takes nothing", x.left(0, 0), 1000);
        x.fall(0);
        Check.due("nobody stands where it is down", x.left(0, 1), 999);

        Check.says(7, "BAD");
        for (int wrong : Make.outside(0, 2)) {
            Check.due("amount " + wrong, x.left(0, wrong), BAD);
        }
        for (int wrong : Make.outside(0, 1)) {
            Check.due("host " + wrong, x.left(wrong, 0), BAD);
        }
        x = Make.many(10, 6);
        Check.due("the last host", x.left(9, 2), 6);
        Check.due("the first that is not there", x.left(10, 0), BAD);
    }

    private static void pointsNumbers() {
        Check.says(6, "BAD less 1000000 (-1000001)");
        HostPacker x = Make.many(10, 5);
        for (int job = 0; job < 24; job++) {
            Make.plain(x, 5, 0);
        }
        for (int wrong : Make.outside(0, 23)) {
            Check.due("job " + wrong, x.points(wrong, 0), -1000001);
        }
        for (int wrong : Make.outside(0, 9)) {
            Check.due("host " + wrong, x.points(0, wrong), -1000001);
        }
        Check.due("the last of each", x.points(23, 9), 10);
        x = Make.many(2, 5);
        Make.plain(x, 5, 0);
        Check.due("the first job that is not there", x.points(1, 0), -1000001);
        Check.due("the first host that is not there", x.points(0, 2), -1000001);

        Check.says(6, "NOT less 1000000: it does not WAIT");
        x.place(0);
        Check.due("it stands", x.points(0, 1), -1000002);
        Check.due("BAD before NOT", x.points(0, 2), -1000001);
        x.fall(0);
        Check.due("it waits again", x.points(0, 1), 10);
        x.end(0);
        Check.due("it has ended", x.points(0, 1), -1000002);
    }

    private static void pointsOfLeft() {
        Check.says(0, "w0 times what would be LEFT (all three together)");
        Check.says(0, "POINTS of a HOST for a JOB, by WEIGHTS w0, w1, w2 (-100 .. 100; 1, 10, 5 at first)");
        HostPacker x = new HostPacker();
        x.host(1000, 1000, 1000, 0, 0);
        x.host(0, 0, 0, 0, 1);
        x.host(3, 4, 5, 0, 0);
        x.job(0, 0, 0, 0, 0, 0, 0, 0);
        x.job(0, 1000, 1000, 1000, 0, 0, 0, 0);
        x.job(0, 1, 1, 1, 0, 0, 0, 0);
        x.job(0, 1, 2, 3, 0, 0, 0, 0);
        for (int w0 = -100; w0 <= 100; w0 += 50) {
            x.weight(0, w0);
            Check.due("the most is left", x.points(0, 0), 3000 * w0);
            Check.due("all is taken", x.points(1, 0), 0);
            Check.due("each amount counts", x.points(3, 2), 6 * w0);
            Check.says(6, "POINTS of a HOST for a JOB (whether it FITS or not)");
            Check.due("all is too much, and it is tainted", x.points(1, 1), -3000 * w0);
            x.fall(2);
            Check.due("down", x.points(2, 2), 9 * w0);
            x.rise(2);
            Check.says(0, "w0 times what would be LEFT (all three together)");
        }
        x.weight(0, 1);
        Check.due("stands", x.place(3), 0);
        Check.due("what is taken is not left", x.points(2, 0), 3000 - 6 - 3 - 10);
    }

    private static void pointsOfGroup() {
        Check.says(0, "less w1 times how many of its GROUP STAND on that HOST");
        HostPacker x = Make.halls(0, 0);
        x.weight(0, 0);
        for (int i = 0; i < 22; i++) {
            Check.due(i + " of it", x.points(Make.job(x, 0, 0, 0, 3, 0, Make.on(0)), 0), -10 * i);
            x.place(i);
        }
        int last = Make.job(x, 0, 0, 0, 3, 0, Make.ANY);
        for (int w1 = -100; w1 <= 100; w1 += 50) {
            x.weight(1, w1);
            Check.due("22 of it", x.points(last, 0), -22 * w1);
            Check.due("none on that host", x.points(last, 1), 0);
        }
        int another = Make.job(x, 0, 0, 0, 4, 3, Make.ANY);
        Check.due("none of its group", x.points(another, 0), 0);
        x.end(0);
        Check.due("one has ended", x.points(last, 0), -2100);
        x.fall(0);
        Check.due("all wait", x.points(last, 0), 0);
    }

    private static void pointsOfOther() {
        Check.says(0, "and w2 times how many of its OTHER group do, if it is SHY or DRAWN (DRAWN: in that HALL)");
        HostPacker x = Make.halls(0, 0, 1);
        x.weight(0, 0);
        x.weight(1, -100);
        for (int i = 0; i < 17; i++) {
            Make.standing(x, 0, 0, 0, 3, 0, 0);
        }
        Make.standing(x, 0, 0, 0, 3, 0, 2);
        for (int kind = 0; kind < 6; kind++) {
            Make.job(x, kind, 0, 0, 4, 3, Make.ANY);
        }
        for (int w2 = -100; w2 <= 100; w2 += 50) {
            x.weight(2, w2);
            for (int kind = 0; kind < 6; kind++) {
                int job = 18 + kind;
                Check.due("on that host, kind " + kind, x.points(job, 0), kind > 3 ? 17 * w2 : 0);
                Check.due("in that hall, kind " + kind, x.points(job, 1), kind == 5 ? 17 * w2 : 0);
                Check.due("in another hall, kind " + kind, x.points(job, 2), kind > 3 ? w2 : 0);
            }
        }
        for (int kind = 4; kind < 6; kind++) {
            HostPacker y = Make.halls(0);
            Make.standing(y, 0, 0, 0, 3, 0, 0);
            int own = Make.job(y, kind, 0, 0, 3, 3, Make.ANY);
            Check.due("its own group is its other", y.points(own, 0), 300 - 10 + 5);
        }
    }

    private static void toldNumbers() {
        Check.says(8, "BAD");
        HostPacker x = Make.many(10, 5);
        for (int job = 0; job < 24; job++) {
            Make.plain(x, 5, 0);
        }
        for (int wrong : Make.outside(0, 23)) {
            Check.due("job " + wrong, x.told(wrong, 0), BAD);
        }
        for (int wrong : Make.outside(0, 5)) {
            Check.due("what " + wrong, x.told(0, wrong), BAD);
        }
        x = Make.many(1, 5);
        Make.plain(x, 5, 0);
        Check.due("the first job that is not there", x.told(1, 0), BAD);

        Check.says(8, "3 KIND, 4 PRIORITY, 5 GROUP");
        x = Make.many(1, 5);
        for (int kind = 0; kind < 6; kind++) {
            int job = x.job(kind, 0, 0, 0, 9 - kind, 2 + kind, 255, 0);
            Check.due("kind", x.told(job, 3), kind);
            Check.due("priority", x.told(job, 4), 9 - kind);
            Check.due("group", x.told(job, 5), 2 + kind);
            x.place(job);
            x.end(job);
            Check.due("kind of one that has ended", x.told(job, 3), kind);
            Check.due("priority of one that has ended", x.told(job, 4), 9 - kind);
            Check.due("group of one that has ended", x.told(job, 5), 2 + kind);
        }
    }

    private static void toldStates() {
        Check.says(8, "Of a JOB: 0 whether it WAITS (0), STANDS (1), has ENDED (2)");
        HostPacker x = Make.many(9, 0);
        x.host(5, 5, 5, 0, 0);
        Make.plain(x, 5, 0);
        Check.due("waits", x.told(0, 0), 0);
        x.place(0);
        Check.due("stands", x.told(0, 0), 1);
        x.fall(9);
        Check.due("waits again", x.told(0, 0), 0);
        x.end(0);
        Check.due("has ended", x.told(0, 0), 2);
        x.undo();
        Check.due("waits once more", x.told(0, 0), 0);

        Check.says(8, "1 its HOST (NONE)");
        Check.due("of one that waits", x.told(0, 1), NONE);
        x.rise(9);
        x.place(0);
        Check.due("the last host", x.told(0, 1), 9);
        x.end(0);
        Check.due("of one that has ended", x.told(0, 1), NONE);
        x = Make.many(10, 5);
        Make.plain(x, 5, 0);
        x.place(0);
        Check.due("the first host", x.told(0, 1), 0);
        x.move(0, 9);
        Check.due("moved", x.told(0, 1), 9);
    }

    private static void toldTurns() {
        Check.says(8, "2 as the how-many-th it was placed or moved (1, 2, .. over all");
        HostPacker x = Make.hosts(20, 20);
        Make.standing(x, 1, 0);
        Check.due("the first", x.told(0, 2), 1);
        Make.plainOn(x, 1, 1);
        Check.due("the second, over all hosts", x.told(1, 2), 2);
        Check.due("refused", x.move(1, 1), NOT);
        Check.due("refused", x.place(0), NOT);
        Check.due("refused", x.place(Make.plain(x, 21, Make.ANY)), NONE);
        Check.due("moved", x.move(1, 0), 1);
        Check.due("the third", x.told(1, 2), 3);
        Make.job(x, 2, 1, 0, 4, 0, Make.ANY);
        Make.job(x, 2, 1, 0, 4, 0, Make.ANY);
        Make.job(x, 2, 21, 0, 5, 0, Make.ANY);
        Check.due("a gang", x.gang(4), 2);
        Check.due("the fourth", x.told(3, 2), 4);
        Check.due("the fifth", x.told(4, 2), 5);
        Check.due("refused", x.gang(5), NONE);
        x.end(0);
        Make.standing(x, 1, 1);
        Check.due("who has ended was counted", x.told(6, 2), 6);
        Check.due("of the others it stays", x.told(1, 2), 3);

        Check.says(8, "NONE, where it does not STAND)");
        Check.due("of one that has ended", x.told(0, 2), NONE);
        Check.due("of one that waits", x.told(2, 2), NONE);
        x.fall(0);
        Check.due("of one that waits again", x.told(1, 2), NONE);
    }
}
