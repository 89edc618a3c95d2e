/** Promises 1 to 8, and what the terms say of hosts and jobs: a test for each edge that they name. */
final class HostsAndJobsEdges {
    private static final int BAD = -1, NOT = -2;

    private HostsAndJobsEdges() {
    }

    static void check() {
        newObject();
        nothingThereYet();
        hostNumbers();
        hostAmounts();
        hostHalls();
        hostTaints();
        hostsFull();
        jobNumbers();
        jobKinds();
        jobAmounts();
        jobRanges();
        jobTolerated();
        jobOther();
        jobsFull();
        weightEdges();
        HostAnswersEdges.check();
    }

    private static void newObject() {
        Check.says(1, "No HOSTS, no JOBS");
        HostPacker used = Make.many(2, 9);
        Make.standing(used, 1, 0);
        used.weight(0, 50);
        used.target(0, 1);
        HostPacker x = new HostPacker();
        for (int what = 0; what < 7; what++) {
            Check.due("count " + what, x.count(what), 0);
        }
        Check.due("the first host", x.host(1, 1, 1, 0, 0), 0);
        Check.due("the first job", x.job(0, 1, 1, 1, 0, 0, 0, 0), 0);
        Check.due("another object keeps its own", used.count(0), 2);

        Check.says(1, "WEIGHTS as at first");
        x = new HostPacker();
        Check.due("w0", x.weight(0, 7), 1);
        Check.due("w1", x.weight(1, 7), 10);
        Check.due("w2", x.weight(2, 7), 5);

        Check.says(1, "nothing to undo");
        x = new HostPacker();
        Check.due("undo", x.undo(), NOT);
        Check.due("count 7", x.count(7), 0);
        Check.due("undo again", x.undo(), NOT);
    }

    private static void nothingThereYet() {
        Check.says(0, "names nothing");
        HostPacker x = new HostPacker();
        Check.due("why", x.why(0, 0), BAD);
        Check.due("points", x.points(0, 0), -1000001);
        Check.due("left", x.left(0, 0), BAD);
        Check.due("told", x.told(0, 0), BAD);
        Check.due("place", x.place(0), BAD);
        Check.due("end", x.end(0), BAD);
        Check.due("fall", x.fall(0), BAD);
        Check.due("rise", x.rise(0), BAD);
        Check.due("move", x.move(0, 0), BAD);
        Check.due("target", x.target(0, 0), BAD);
        Check.due("no target", x.target(0, -1), BAD);
        Check.due("step", x.step(0, 0), BAD);
        Check.due("would", x.would(0, 0), BAD);
        x.host(9, 9, 9, 0, 0);
        Check.due("why, with a host but no job", x.why(0, 0), BAD);
        Check.due("points, with a host but no job", x.points(0, 0), -1000001);
        Check.due("move, with a host but no job", x.move(0, 0), BAD);
        Check.due("target, with a host but no job", x.target(0, 0), BAD);
        Check.due("would, with a host but no job", x.would(0, 0), BAD);
        x = new HostPacker();
        Make.plain(x, 1, 0);
        Check.due("why, with a job but no host", x.why(0, 0), BAD);
        Check.due("points, with a job but no host", x.points(0, 0), -1000001);
        Check.due("move, with a job but no host", x.move(0, 0), BAD);
        Check.due("target, with a job but no host", x.target(0, 0), BAD);
        Check.due("no target, with a job but no host", x.target(0, -1), 0);
    }

    private static void hostNumbers() {
        Check.says(0, "HOSTS 0 .. 9, as they come");
        Check.says(2, "A HOST: its number");
        HostPacker x = new HostPacker();
        for (int host = 0; host < 10; host++) {
            Check.due("refused", x.host(-1, 0, 0, 0, 0), BAD);
            Check.due("host", x.host(host, 0, 0, 0, 0), host);
            Check.due("how many", x.count(0), host + 1);
        }
        for (int host = 0; host < 10; host++) {
            Check.due("its own amount", x.left(host, 0), host);
        }
        Check.says(0, "HOSTS 0 .. 9, as they come");
        x = Make.many(10, 9);
        Check.due("the last one is undone", x.undo(), 9);
        Check.due("and named no more", x.left(9, 0), BAD);
        Check.due("the next has its number", x.host(3, 4, 5, 0, 0), 9);
        Check.due("and amounts of its own", x.left(9, 2), 5);

        Check.says(0, "are UP (at first) or DOWN");
        Check.due("up", x.rise(9), NOT);
        Check.due("all are up", x.count(5), 10);
        Check.due("falls", x.fall(9), 0);
        Check.due("down", x.fall(9), NOT);
        Check.due("nine are up", x.count(5), 9);
        x = Make.many(1, 9);
        x.fall(0);
        x.undo();
        x.undo();
        Check.due("a host of the same number", x.host(9, 9, 9, 0, 0), 0);
        Check.due("is up", x.rise(0), NOT);
    }

    private static void hostAmounts() {
        Check.says(2, "BAD");
        Check.says(0, "have three AMOUNTS (0 .. 1000)");
        for (int i = 0; i < 3; i++) {
            HostPacker x = new HostPacker();
            int[] least = {500, 500, 500};
            int[] most = {500, 500, 500};
            least[i] = 0;
            most[i] = 1000;
            Check.due("0 of amount " + i, x.host(least[0], least[1], least[2], 0, 0), 0);
            Check.due("1000 of amount " + i, x.host(most[0], most[1], most[2], 0, 0), 1);
            Check.due("0 is left", x.left(0, i), 0);
            Check.due("1000 is left", x.left(1, i), 1000);
            Check.due("500 is left of another", x.left(1, (i + 1) % 3), 500);
            for (int wrong : Make.outside(0, 1000)) {
                int[] n = {500, 500, 500};
                n[i] = wrong;
                Check.due("amount " + i + ": " + wrong, x.host(n[0], n[1], n[2], 0, 0), BAD);
            }
            Check.due("no more hosts", x.count(0), 2);
        }
    }

    private static void hostHalls() {
        Check.says(2, "BAD");
        Check.says(0, "a HALL (0 .. 4)");
        HostPacker x = new HostPacker();
        for (int wrong : Make.outside(0, 4)) {
            Check.due("hall " + wrong, x.host(1, 1, 1, wrong, 0), BAD);
        }
        Check.due("no hosts", x.count(0), 0);
        x = Make.halls(0, 1, 2, 3, 4);
        Make.standing(x, 0, 0, 0, 6, 0, 3);
        int drawn = Make.job(x, 5, 0, 0, 0, 6, Make.ANY);
        for (int hall = 0; hall < 5; hall++) {
            Check.due("each hall is one of its own", x.why(drawn, hall), hall == 3 ? 0 : 7);
        }
    }

    private static void hostTaints() {
        Check.says(2, "BAD");
        Check.says(0, "TAINTS (8 bits)");
        HostPacker x = new HostPacker();
        for (int wrong : Make.outside(0, 255)) {
            Check.due("taints " + wrong, x.host(1, 1, 1, 0, wrong), BAD);
        }
        Check.due("no hosts", x.count(0), 0);
        Check.due("none", x.host(1, 1, 1, 0, 0), 0);
        Check.due("all", x.host(1, 1, 1, 0, 255), 1);
        int job = Make.plain(x, 0, 0);
        Check.due("no taint needs no tolerance", x.why(job, 0), 0);
        Check.due("all taints", x.why(job, 1), 2);
        for (int bit = 0; bit < 8; bit++) {
            int host = x.host(1, 1, 1, 0, 1 << bit);
            Check.due("taint " + bit + " alone", x.why(job, host), 2);
            int tolerant = Make.plain(x, 0, 1 << bit);
            Check.due("tolerated alone", x.why(tolerant, host), 0);
            int other = Make.plain(x, 0, 255 - (1 << bit));
            Check.due("all but it tolerated", x.why(other, host), 2);
            Check.due("one of all not tolerated", x.why(other, 1), 2);
        }
    }

    private static void hostsFull() {
        Check.says(2, "NOT: there are 10");
        HostPacker x = Make.many(9, 1);
        Check.due("nine, and the tenth", x.host(1, 1, 1, 0, 0), 9);
        Check.due("an eleventh", x.host(1, 1, 1, 0, 0), NOT);
        Check.due("the greatest numbers", x.host(1000, 1000, 1000, 4, 255), NOT);
        Check.due("still ten", x.count(0), 10);
        Check.due("no eleventh", x.left(10, 0), BAD);
        x.fall(3);
        Check.due("those that are down count", x.host(1, 1, 1, 0, 0), NOT);
        x.undo();
        Check.due("nine after undo", x.undo(), 9);
        Check.due("the tenth again", x.host(1, 1, 1, 0, 0), 9);

        Check.says(0, "Refusals are answers, of several the first: BAD -1");
        Check.due("BAD before NOT", x.host(1001, 1, 1, 0, 0), BAD);
        Check.due("BAD before NOT", x.host(1, 1, 1, 0, 256), BAD);
    }

    private static void jobNumbers() {
        Check.says(0, "JOBS 0 .. 23, as they come");
        Check.says(3, "A JOB that asks for a, b, c (0 .. 1000): its number");
        HostPacker x = new HostPacker();
        for (int job = 0; job < 24; job++) {
            Check.due("refused", x.job(-1, 0, 0, 0, 0, 0, 0, 0), BAD);
            Check.due("job", x.job(0, 0, 0, 0, job % 10, job % 8, 0, 0), job);
            Check.due("how many", x.count(1), job + 1);
        }
        for (int job = 0; job < 24; job++) {
            Check.due("its own priority", x.told(job, 4), job % 10);
            Check.due("its own group", x.told(job, 5), job % 8);
        }
        Check.says(0, "A JOB WAITS (at first), STANDS on a HOST, or has ENDED");
        Check.due("all wait", x.count(2), 24);
        Check.due("the first waits", x.told(0, 0), 0);
        Check.due("the last waits", x.told(23, 0), 0);
        x = Make.many(1, 9);
        Make.plain(x, 1, 0);
        Check.due("stands", x.place(0), 0);
        Check.due("stands", x.told(0, 0), 1);
        x.undo();
        x.undo();
        Check.due("a job of the same number", Make.plain(x, 1, 0), 0);
        Check.due("waits", x.told(0, 0), 0);
        Check.due("has ended", x.end(0), 1);
        Check.due("has ended", x.told(0, 0), 2);
        x.undo();
        x.undo();
        Check.due("a job of the same number", Make.plain(x, 1, 0), 0);
        Check.due("waits", x.told(0, 0), 0);
    }

    private static void jobKinds() {
        Check.says(3, "BAD");
        Check.says(0, "have a KIND: 0 JOB");
        HostPacker x = Make.many(2, 9);
        for (int wrong : Make.outside(0, 5)) {
            Check.due("kind " + wrong, x.job(wrong, 1, 1, 1, 1, 1, 1, 1), BAD);
        }
        for (int kind = 0; kind < 6; kind++) {
            Check.due("kind " + kind, Make.job(x, kind, 0, 0, 1, 2, 0), kind);
            Check.due("is told", x.told(kind, 3), kind);
        }
        Check.due("a plain one", x.place(0), 0);
        Check.due("moves", x.move(0, 1), 0);

        Check.says(0, "below it 1 SET, 3 FIXED, 4 SHY");
        Make.standing(x, 0, 0);
        Check.due("a set", x.place(1), 0);
        Check.due("moves", x.move(1, 1), 0);
        Check.due("a fixed one", x.place(3), 0);
        Check.due("stays", x.move(3, 1), NOT);
        Check.due("a shy one beside none of its other group", x.why(4, 0), 0);

        Check.says(0, "2 GANG below 1");
        Check.due("is no job to be placed", x.place(2), NOT);
        Check.due("is placed at once", x.gang(1), 1);

        Check.says(0, "5 DRAWN below 4");
        Check.due("beside none of its other group", x.why(5, 0), 7);
        Make.standing(x, 0, 0, 0, 2, 0, 0);
        Check.due("beside one", x.why(5, 0), 0);
        Check.due("a shy one beside one", x.why(4, 0), 7);
    }

    private static void jobAmounts() {
        Check.says(3, "BAD");
        Check.says(3, "asks for a, b, c (0 .. 1000)");
        Check.says(0, "ask for three AMOUNTS");
        for (int i = 0; i < 3; i++) {
            HostPacker x = Make.many(1, 999);
            x.host(1000, 1000, 1000, 0, 0);
            x.host(0, 0, 0, 0, 0);
            int[] most = {0, 0, 0};
            most[i] = 1000;
            Check.due("least", x.job(0, 0, 0, 0, 0, 0, 0, 0), 0);
            Check.due("most", x.job(0, most[0], most[1], most[2], 0, 0, 0, 0), 1);
            Check.due("0 is asked where 0 is left", x.why(0, 2), 0);
            Check.due("1000 is asked where 999 is left", x.why(1, 0), 3 + i);
            Check.due("1000 is asked where 1000 is left", x.why(1, 1), 0);
            for (int wrong : Make.outside(0, 1000)) {
                int[] n = {1, 1, 1};
                n[i] = wrong;
                Check.due("amount " + i + ": " + wrong, x.job(0, n[0], n[1], n[2], 1, 1, 1, 1), BAD);
            }
            Check.due("no more jobs", x.count(1), 2);
        }
    }

    private static void jobRanges() {
        Check.says(3, "BAD");
        Check.says(0, "have a PRIORITY (0 .. 9)");
        HostPacker x = new HostPacker();
        for (int wrong : Make.outside(0, 9)) {
            Check.due("priority " + wrong, x.job(0, 1, 1, 1, wrong, 1, 1, 1), BAD);
        }
        Check.due("least", x.job(0, 1, 1, 1, 0, 1, 1, 1), 0);
        Check.due("most", x.job(0, 1, 1, 1, 9, 1, 1, 1), 1);
        Check.due("least", x.told(0, 4), 0);
        Check.due("most", x.told(1, 4), 9);

        Check.says(0, "a GROUP (0 .. 7)");
        x = new HostPacker();
        for (int wrong : Make.outside(0, 7)) {
            Check.due("group " + wrong, x.job(0, 1, 1, 1, 1, wrong, 1, 1), BAD);
        }
        Check.due("least", x.job(0, 1, 1, 1, 1, 0, 1, 1), 0);
        Check.due("most", x.job(0, 1, 1, 1, 1, 7, 1, 1), 1);
        Check.due("least", x.told(0, 5), 0);
        Check.due("most", x.told(1, 5), 7);
    }

    private static void jobTolerated() {
        Check.says(3, "BAD");
        Check.says(0, "TOLERATED taints (8 bits)");
        HostPacker x = new HostPacker();
        for (int wrong : Make.outside(0, 255)) {
            Check.due("tolerated " + wrong, x.job(0, 1, 1, 1, 1, 1, wrong, 1), BAD);
        }
        Check.due("no jobs", x.count(1), 0);
        x.host(9, 9, 9, 0, 255);
        Check.due("all", Make.plain(x, 1, 255), 0);
        Check.due("none", Make.plain(x, 1, 0), 1);
        Check.due("all but the first", Make.plain(x, 1, 254), 2);
        Check.due("all but the last", Make.plain(x, 1, 127), 3);
        Check.due("all", x.why(0, 0), 0);
        for (int job = 1; job < 4; job++) {
            Check.due("not all", x.why(job, 0), 2);
        }
    }

    private static void jobOther() {
        Check.says(3, "BAD");
        Check.says(0, "an OTHER group (0 .. 7; of SHY, DRAWN)");
        for (int kind = 4; kind < 6; kind++) {
            HostPacker x = Make.many(1, 9);
            for (int wrong : Make.outside(0, 7)) {
                Check.due("other " + wrong, x.job(kind, 1, 1, 1, 1, 1, 1, wrong), BAD);
            }
            for (int other = 0; other < 8; other += 7) {
                int job = Make.job(x, kind, 0, 0, 3, other, 0);
                Check.due("none of it", x.why(job, 0), kind == 4 ? 0 : 7);
                Make.standing(x, 0, 0, 0, other, 0, 0);
                Check.due("one of it", x.why(job, 0), kind == 4 ? 7 : 0);
            }
        }
        HostPacker x = Make.many(1, 9);
        Make.standing(x, 0, 0, 0, 2, 0, 0);
        for (int kind = 0; kind < 4; kind++) {
            int job = Make.job(x, kind, 0, 0, 3, 2, 0);
            Check.due("of kind " + kind + " there is none", x.why(job, 0), 0);
            Check.due("nor does it count", x.points(job, 0), 27);
        }
    }

    private static void jobsFull() {
        Check.says(3, "NOT: there are 24");
        HostPacker x = new HostPacker();
        for (int job = 0; job < 23; job++) {
            Make.plain(x, 0, 0);
        }
        Check.due("23, and the last", Make.plain(x, 0, 0), 23);
        Check.due("one more", Make.plain(x, 0, 0), NOT);
        Check.due("the greatest numbers", x.job(5, 1000, 1000, 1000, 9, 7, 255, 7), NOT);
        Check.due("still 24", x.count(1), 24);
        Check.due("no 25th", x.told(24, 0), BAD);
        Check.due("one has ended", x.end(7), 1);
        Check.due("it counts", Make.plain(x, 0, 0), NOT);
        x.undo();
        Check.due("23 after undo", x.undo(), 23);
        Check.due("named no more", x.told(23, 0), BAD);
        Check.due("the last again", Make.plain(x, 0, 0), 23);

        Check.says(0, "Refusals are answers, of several the first: BAD -1");
        Check.due("BAD before NOT", x.job(6, 0, 0, 0, 0, 0, 0, 0), BAD);
        Check.due("BAD before NOT", x.job(4, 0, 0, 0, 0, 0, 0, 8), BAD);
    }

    private static void weightEdges() {
        Check.says(0, "POINTS of a HOST for a JOB, by WEIGHTS w0, w1, w2 (-100 .. 100; 1, 10, 5 at first)");
        Check.says(4, "A WEIGHT: what it was");
        int[] first = {1, 10, 5};
        for (int which = 0; which < 3; which++) {
            HostPacker x = new HostPacker();
            Check.due("at first", x.weight(which, -100), first[which]);
            Check.due("the least", x.weight(which, 100), -100);
            Check.due("the most", x.weight(which, -1), 100);
            Check.due("below none", x.weight(which, 0), -1);
            Check.due("none", x.weight(which, 0), 0);
            for (int other = 0; other < 3; other++) {
                Check.due("another", x.weight(other, 3), other == which ? 0 : first[other]);
            }
        }
        Check.says(4, "BAD less 1000 (-1001)");
        HostPacker x = new HostPacker();
        for (int wrong : Make.outside(0, 2)) {
            Check.due("which " + wrong, x.weight(wrong, 0), -1001);
        }
        for (int wrong : Make.outside(-100, 100)) {
            for (int which = 0; which < 3; which++) {
                Check.due("weight " + wrong, x.weight(which, wrong), -1001);
            }
        }
        Check.due("nothing was accepted", x.count(7), 0);
    }
}
