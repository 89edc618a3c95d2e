/** Promises 18 to 20, targets and plans of moves, with A PLAN of the terms. */
final class PlanEdges {
    private static final int BAD = -1, NOT = -2, NONE = -3, GREAT = -4;
    private static final String PLAN = "the fewest MOVES, each of one JOB that STANDS, is not FIXED, and has a TARGET, "
            + "to a HOST on which it FITS as if it WAITED";

    private PlanEdges() {
    }

    static void check() {
        targetNumbers();
        targetsStay();
        noMoves();
        oneMove();
        onlyThoseWithTargets();
        asIfItWaited();
        fewestMoves();
        firstThatDiffers();
        fourTargets();
        eightMoves();
        planRefusals();
        stepNumbers();
        stepOfTheLatest();
    }

    /** plan() tells so many moves, and they are these jobs and hosts. */
    private static void plan(String what, HostPacker x, int... moves) {
        Check.due(what, x.plan(), moves.length / 2);
        for (int i = 0; i < moves.length / 2; i++) {
            Check.due(what + ": the job of move " + i, x.step(i, 0), moves[2 * i]);
            Check.due(what + ": the host of move " + i, x.step(i, 1), moves[2 * i + 1]);
        }
        Check.due(what + ": no more moves", x.step(moves.length / 2, 0), BAD);
    }

    private static void targetNumbers() {
        Check.says(18, "A TARGET for a JOB (a HOST; -1: none): how many TARGETS there are");
        HostPacker x = Make.many(10, 5);
        for (int job = 0; job < 24; job++) {
            Make.plain(x, 1, 0);
        }
        for (int job = 0; job < 24; job++) {
            Check.due("one more", x.target(job, job % 10), job + 1);
        }
        Check.due("the last host", x.target(23, 9), 24);
        Check.due("the first host", x.target(23, 0), 24);
        for (int job = 0; job < 24; job++) {
            Check.due("one less", x.target(job, -1), 23 - job);
        }
        Check.due("none, where there is none", x.target(0, -1), 0);

        Check.says(18, "BAD");
        for (int wrong : Make.outside(0, 23)) {
            Check.due("job " + wrong, x.target(wrong, 0), BAD);
            Check.due("none for job " + wrong, x.target(wrong, -1), BAD);
        }
        for (int wrong : Make.outside(-1, 9)) {
            Check.due("host " + wrong, x.target(0, wrong), BAD);
        }
        Check.due("no targets", x.count(6), 0);
        x = Make.many(2, 5);
        Make.plain(x, 1, 0);
        Check.due("the first host that is not there", x.target(0, 2), BAD);
        Check.due("the first job that is not there", x.target(1, 0), BAD);
    }

    private static void targetsStay() {
        Check.says(18, "(They stay; clear by -1.)");
        HostPacker x = Make.hosts(9, 9, 9);
        Make.put(x, Make.plain(x, 1, Make.ANY), 0);
        Make.plain(x, 1, Make.ANY);
        Make.put(x, Make.job(x, 3, 1, 0, 0, 0, Make.on(0)), 0);
        Check.due("of one that stands", x.target(0, 1), 1);
        Check.due("of one that waits", x.target(1, 1), 2);
        Check.due("of a fixed one", x.target(2, 1), 3);
        x.fall(1);
        Check.due("to a host that is down", x.target(1, 1), 3);
        x.move(0, 2);
        Check.due("moved", x.count(6), 3);
        x.fall(0);
        x.fall(2);
        x.end(0);
        Check.due("fallen, ended", x.count(6), 3);
        Check.due("of one that has ended", x.target(0, 2), 3);
        x.target(1, -1);
        x.target(2, -1);
        Check.due("cleared", x.count(6), 1);
        Check.due("cleared", x.target(0, -1), 0);
        x.rise(0);
        x.rise(1);
        x.place(1);
        x.target(1, 1);
        plan("moves by plan()", x, 1, 1);
        Check.due("it stays", x.count(6), 1);
        Check.due("it is moved", x.move(1, 1), 0);
        plan("there", x);
        x.move(1, 0);
        plan("it stayed all the time", x, 1, 1);
    }

    private static void noMoves() {
        Check.says(19, "A PLAN: how many MOVES");
        plan("no hosts, no jobs", new HostPacker());
        HostPacker x = Make.hosts(9, 9);
        Make.plainOn(x, 9, 0);
        Make.plain(x, 1, Make.ANY);
        plan("no targets", x);
        x.target(0, 0);
        plan("there already", x);
    }

    private static void oneMove() {
        Check.says(19, "A PLAN: how many MOVES");
        Check.says(0, PLAN);
        HostPacker x = Make.many(10, 5);
        for (int i = 0; i < 24; i++) {
            Make.plain(x, 0, 0);
        }
        Make.put(x, 23, 0);
        x.target(23, 9);
        plan("the last job, to the last host", x, 23, 9);
        Check.due("it stays where it is", x.told(23, 1), 0);
        Check.due("nothing to be undone", x.undo(), 29);
        Check.due("but the target", x.count(6), 0);
        for (int asks = 5; asks < 7; asks++) {
            x = Make.hosts(9, 9);
            Make.standing(x, 4, 1);
            Make.plainOn(x, asks, 0);
            x.target(1, 1);
            if (asks == 5) {
                plan("as much as is left", x, 1, 1);
            } else {
                Check.due("one more than is left", x.plan(), NONE);
            }
        }
    }

    private static void onlyThoseWithTargets() {
        Check.says(0, PLAN);
        Check.says(0, "at the end each such JOB STANDS on its TARGET");
        HostPacker x = Make.hosts(10, 10, 10, 5);
        Make.plainOn(x, 6, 0);
        Make.plainOn(x, 6, 1);
        Make.plainOn(x, 5, 2);
        x.target(0, 1);
        x.target(1, 0);
        Check.due("one without a target is in the way", x.plan(), NONE);
        x.target(2, 2);
        plan("it makes room and comes back", x, 2, 3, 0, 2, 1, 0, 0, 1, 2, 2);
        x.target(2, 3);
        plan("it makes room", x, 2, 3, 0, 2, 1, 0, 0, 1);
        x = Make.hosts(10, 10);
        Make.plainOn(x, 6, 0);
        Make.standing(x, 3, 6, 9, 0, 0, 1);
        x.target(0, 1);
        Check.due("a fixed one is in the way", x.plan(), NONE);
        Check.due("no lesser one goes", x.told(1, 0), 1);
    }

    private static void asIfItWaited() {
        Check.says(0, PLAN);
        HostPacker x = Make.halls(0, 0, 1);
        Make.put(x, Make.job(x, 1, 0, 0, 2, 0, Make.ANY), 0);
        x.target(0, 1);
        plan("a set one does not count for itself", x, 0, 1);
        Make.standing(x, 1, 0, 0, 2, 0, 2);
        x.target(0, 2);
        Check.due("two of a set in a hall", x.plan(), NONE);
        x.target(0, 1);
        x.fall(1);
        Check.due("down", x.plan(), NONE);
        x = Make.hosts(9, 9);
        Make.put(x, Make.plain(x, 0, Make.on(0)), 0);
        x.target(0, 1);
        Check.due("a taint", x.plan(), NONE);
        x = Make.halls(0, 1);
        Make.put(x, Make.job(x, 0, 0, 0, 2, 0, Make.ANY), 0);
        Make.put(x, Make.job(x, 5, 0, 0, 1, 2, Make.ANY), 0);
        x.target(1, 1);
        Check.due("drawn to one that stays", x.plan(), NONE);
        x.target(0, 1);
        plan("drawn to one that goes first", x, 0, 1, 1, 1);
    }

    private static void fewestMoves() {
        Check.says(0, PLAN);
        HostPacker x = Make.hosts(10, 10, 10, 10);
        Make.plainOn(x, 6, 0);
        Make.plainOn(x, 6, 1);
        Make.plainOn(x, 6, 2);
        x.target(0, 1);
        x.target(1, 2);
        x.target(2, 3);
        plan("in the only order of three", x, 2, 3, 1, 2, 0, 1);
        x.target(2, 0);
        plan("round by way of host 3", x, 0, 3, 2, 0, 1, 2, 0, 1);
        x.target(2, -1);
        Check.due("host 2 is not free", x.plan(), NONE);
    }

    private static void firstThatDiffers() {
        Check.says(0, "Of several with as few the one whose first MOVE that differs has the lesser JOB, then HOST");
        HostPacker x = Make.hosts(10, 10, 10, 10, 10);
        Make.plainOn(x, 6, 0);
        Make.plainOn(x, 6, 1);
        x.target(0, 1);
        x.target(1, 0);
        plan("the lesser job first, to the least free host", x, 0, 2, 1, 0, 0, 1);
        x.fall(2);
        plan("the next free host", x, 0, 3, 1, 0, 0, 1);
        Make.standing(x, 5, 3);
        plan("the last free host", x, 0, 4, 1, 0, 0, 1);
        x.fall(4);
        Check.due("none is free", x.plan(), NONE);
        x = Make.hosts(10, 10, 10, 5);
        Make.plainOn(x, 6, 1);
        Make.plainOn(x, 5, 0);
        Make.standing(x, 4, 0);
        Make.standing(x, 6, 2);
        x.target(0, 0);
        x.target(1, 1);
        plan("the greater job where the lesser can not", x, 1, 3, 0, 0, 1, 1);
        x = Make.hosts(9, 9, 9);
        for (int i = 0; i < 3; i++) {
            Make.plainOn(x, 1, 0);
        }
        x.target(2, 1);
        x.target(0, 2);
        x.target(1, 1);
        plan("in order of jobs", x, 0, 2, 1, 1, 2, 1);
    }

    private static void fourTargets() {
        Check.says(0, "With more than 4 TARGETS GREAT");
        Check.says(19, "GREAT");
        HostPacker x = Make.hosts(9, 9, 9);
        for (int i = 0; i < 5; i++) {
            Make.plainOn(x, 1, 0);
        }
        for (int i = 1; i < 5; i++) {
            x.target(i, 1 + i % 2);
        }
        plan("four", x, 1, 2, 2, 1, 3, 2, 4, 1);
        x.target(0, 0);
        Check.due("five, one of them there already", x.plan(), GREAT);
        Check.due("the latest plan stays", x.step(3, 0), 4);
        for (int i = 1; i < 5; i++) {
            x.move(i, 1 + i % 2);
        }
        Check.due("five, all there already", x.plan(), GREAT);
        x.target(3, -1);
        plan("four, all there already", x);
        HostPacker y = Make.many(10, 4);
        for (int i = 0; i < 4; i++) {
            Make.put(y, Make.plain(y, 1, 0), i / 2);
            y.target(i, 9);
        }
        plan("four to the last of ten hosts", y, 0, 9, 1, 9, 2, 9, 3, 9);
        for (int i = 0; i < 4; i++) {
            y.move(i, 9);
            y.target(i, 0);
        }
        plan("four from the last of ten to the first", y, 0, 0, 1, 0, 2, 0, 3, 0);
        Make.put(y, Make.plain(y, 1, 0), 0);
        Check.due("no room for all four", y.plan(), NONE);

        x.target(3, 0);
        Check.due("five again", x.plan(), GREAT);
    }

    private static HostPacker tight(int lastTarget) {
        HostPacker x = Make.hosts(4, 4, 3);
        int[] asks = {1, 3, 2, 2};
        int[] hosts = {0, 1, 2, 0};
        int[] targets = {2, 0, 1, lastTarget};
        for (int i = 0; i < 4; i++) {
            Make.put(x, Make.plain(x, asks[i], Make.ANY), hosts[i]);
        }
        for (int i = 0; i < 4; i++) {
            x.target(i, targets[i]);
        }
        return x;
    }

    private static void eightMoves() {
        Check.says(0, "with more than 8 MOVES there is none");
        Check.says(19, "NONE: there is none");
        plan("eight", tight(1), 0, 1, 2, 0, 1, 2, 2, 1, 0, 0, 3, 1, 1, 0, 0, 2);
        HostPacker x = tight(2);
        Check.due("nine", x.plan(), NONE);
        Check.due("no step", x.step(0, 0), BAD);
        Check.due("the first of nine is made", x.move(0, 1), 0);
        plan("eight are left", x, 2, 0, 1, 2, 2, 1, 0, 0, 3, 1, 1, 0, 0, 2, 3, 2);
    }

    private static void planRefusals() {
        Check.says(19, "NOT: a JOB with a TARGET does not STAND, or is FIXED");
        HostPacker x = Make.hosts(9, 9);
        Make.plain(x, 1, Make.ANY);
        x.target(0, 1);
        Check.due("waits", x.plan(), NOT);
        x.place(0);
        plan("stands", x, 0, 1);
        x.fall(0);
        Check.due("waits again", x.plan(), NOT);
        x.end(0);
        Check.due("has ended", x.plan(), NOT);
        x.target(0, -1);
        plan("without a target", x);
        x.rise(0);
        Make.standing(x, 3, 1, 0, 0, 0, 0);
        x.target(1, 0);
        Check.due("fixed, and there", x.plan(), NOT);
        x.end(1);
        Check.due("fixed, has ended", x.plan(), NOT);
        for (int i = 0; i < 4; i++) {
            Make.plainOn(x, 1, 0);
            x.target(2 + i, 1);
        }
        Check.due("NOT before GREAT", x.plan(), NOT);
        x.fall(1);
        x.target(5, -1);
        Check.due("NOT before NONE", x.plan(), NOT);
        x.target(1, -1);
        Check.due("NONE", x.plan(), NONE);
        x.target(5, 1);
        Check.due("NONE of four", x.plan(), NONE);
        Make.plainOn(x, 1, 0);
        x.target(6, 1);
        Check.due("GREAT, though the host is down", x.plan(), GREAT);
    }

    private static void stepNumbers() {
        Check.says(20, "MOVE i of the latest plan() that told how many: 0 its JOB, 1 its HOST");
        Check.says(20, "BAD");
        HostPacker x = tight(1);
        for (int i = -1; i < 9; i++) {
            Check.due("before any plan", x.step(i, 0), BAD);
        }
        Check.due("eight", x.plan(), 8);
        Check.due("the job of the last", x.step(7, 0), 0);
        Check.due("the host of the last", x.step(7, 1), 2);
        Check.due("the job of the first", x.step(0, 0), 0);
        Check.due("the host of the first", x.step(0, 1), 1);
        for (int wrong : Make.outside(0, 7)) {
            Check.due("move " + wrong, x.step(wrong, 0), BAD);
            Check.due("move " + wrong, x.step(wrong, 1), BAD);
        }
        for (int wrong : Make.outside(0, 1)) {
            Check.due("what " + wrong, x.step(0, wrong), BAD);
        }
    }

    private static void stepOfTheLatest() {
        Check.says(20, "MOVE i of the latest plan() that told how many: 0 its JOB, 1 its HOST");
        HostPacker x = Make.hosts(9, 9, 9);
        Make.plainOn(x, 1, 0);
        Make.plainOn(x, 1, 0);
        x.target(0, 2);
        x.target(1, 1);
        plan("two", x, 0, 2, 1, 1);
        x.end(1);
        Check.due("NOT", x.plan(), NOT);
        Check.due("as before", x.step(1, 0), 1);
        x.undo();
        x.fall(2);
        Check.due("NONE", x.plan(), NONE);
        Check.due("as before", x.step(0, 1), 2);
        x.rise(2);
        x.target(0, -1);
        plan("one", x, 1, 1);
        x.undo();
        Check.due("what is undone is no plan", x.step(0, 0), 1);
        Check.due("of one move", x.step(1, 0), BAD);
        x.move(0, 2);
        x.move(1, 1);
        Check.due("nor is what is moved", x.step(0, 0), 1);
        plan("none", x);
        Check.due("the latest told none", x.step(0, 0), BAD);
    }
}
