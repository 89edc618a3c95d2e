/** Promises 9 to 15, placing, with THE BEST HOST, PLACED, A GANG and FALLS of the terms. */
final class PlacingEdges {
    private static final int BAD = -1, NOT = -2, NONE = -3;

    private PlacingEdges() {
    }

    static void check() {
        placeNumbers();
        placeRefusals();
        bestHost();
        askingWhom();
        askingLeastFirst();
        askingLatestFirst();
        askingUntilItFits();
        askingAllDoNotDo();
        askingWhichHost();
        askingByFixed();
        whoWentWaits();
        goneEdges();
        gangNumbers();
        gangRefusals();
        gangInOrder();
        gangAllOrNone();
        endEdges();
        fallEdges();
        riseEdges();
        moveNumbers();
        moveRefusals();
        moveAsIfItWaited();
    }

    private static void placeNumbers() {
        Check.says(9, "A JOB is PLACED: its HOST");
        HostPacker x = Make.many(9, 1);
        x.host(3, 3, 3, 0, 0);
        for (int i = 0; i < 23; i++) {
            Make.plain(x, i == 5 ? 2 : 1, 0);
        }
        Make.plain(x, 0, 0);
        Check.due("the last host", x.place(5), 9);
        Check.due("it stands there", x.told(5, 1), 9);
        Check.due("the first host", x.place(0), 0);
        Check.due("the last job", x.place(23), 1);
        Check.due("three stand", x.count(3), 3);

        Check.says(9, "BAD");
        for (int wrong : Make.outside(0, 23)) {
            Check.due("job " + wrong, x.place(wrong), BAD);
        }
        x = Make.many(1, 1);
        Check.due("no job is there", x.place(0), BAD);
        Make.plain(x, 1, 0);
        Check.due("the first that is not there", x.place(1), BAD);
    }

    private static void placeRefusals() {
        Check.says(9, "NOT: it does not WAIT, or is of KIND 2");
        HostPacker x = Make.many(2, 9);
        for (int kind = 0; kind < 5; kind++) {
            int job = Make.job(x, kind, 0, 9, 0, 7, 0);
            Check.due("kind " + kind, x.place(job), kind == 2 ? NOT : 0);
            Check.due("kind " + kind + " once more", x.place(job), NOT);
            x.end(job);
            Check.due("kind " + kind + " has ended", x.place(job), NOT);
        }
        Make.job(x, 2, 10, 0, 0, 0, 0);
        Check.due("NOT before NONE", x.place(5), NOT);
        Make.job(x, 2, 0, 0, 0, 0, 0);
        x.gang(0);
        Check.due("a gang one that stands", x.place(6), NOT);

        Check.says(9, "NONE: there is no HOST");
        x = new HostPacker();
        Make.plain(x, 0, 255);
        Check.due("none at all", x.place(0), NONE);
        x.host(0, 0, 0, 0, 0);
        Make.plain(x, 1, 255);
        Check.due("none with enough", x.place(1), NONE);
        Check.due("it waits", x.told(1, 0), 0);
        x.fall(0);
        Check.due("none that is up", x.place(0), NONE);
        x.rise(0);
        Check.due("one", x.place(0), 0);
    }

    private static void bestHost() {
        Check.says(0, "THE BEST HOST for a JOB: of those on which it FITS the one of most POINTS, "
                + "of these the least number");
        HostPacker x = Make.hosts(5, 7, 9, 9, 7);
        int job = Make.plain(x, 1, Make.ANY);
        Check.due("of two with the most the first", x.place(job), 2);
        x.undo();
        x.weight(0, -1);
        Check.due("the most may be below 0", x.place(job), 0);
        x.undo();
        x.weight(0, 0);
        Check.due("all alike", x.place(job), 0);
        x.undo();
        x.weight(0, 1);
        x.fall(2);
        Check.due("only where it fits: not down", x.place(job), 3);
        Check.due("only where it fits: no taints", x.place(Make.plain(x, 1, Make.on(1, 4))), 1);
        Check.due("only where it fits: enough left", x.place(Make.plain(x, 8, Make.ANY)), 3);
        x.weight(1, 3);
        Check.due("less its group", x.place(Make.plain(x, 0, Make.on(1, 4))), 4);

        Check.says(0, "PLACED is a JOB: on its BEST HOST");
        x = Make.hosts(9, 5);
        Make.standing(x, 9, 0);
        Check.due("nobody goes where another host has room", x.place(Make.job(x, 0, 5, 9, 0, 0, Make.ANY)), 1);
        Check.due("nobody went", x.gone(), 0);
        Check.due("it stays", x.told(0, 0), 1);
    }

    private static void askingWhom() {
        Check.says(0, "on each HOST, JOBS that STAND there, with a lesser PRIORITY, not FIXED, "
                + "are taken away one by one");
        for (int one = 0; one < 10; one++) {
            for (int another = 0; another < 10; another++) {
                HostPacker x = Make.hosts(9);
                Make.standing(x, 0, 9, one, 0, 0, 0);
                int asking = Make.job(x, 0, 1, another, 0, 0, Make.ANY);
                Check.due(another + " asks " + one, x.place(asking), one < another ? 0 : NONE);
                Check.due("who stood", x.told(0, 0), one < another ? 0 : 1);
            }
        }
        for (int kind = 0; kind < 6; kind++) {
            HostPacker x = Make.hosts(9, 9);
            Make.standing(x, 0, 0, 9, 5, 0, 0);
            Make.job(x, kind, 9, 0, 0, kind == 5 ? 5 : 6, Make.on(0));
            Check.due("stands", kind == 2 ? x.gang(0) - 1 : x.place(1), 0);
            int asking = Make.job(x, 0, 9, 9, 0, 0, Make.on(0));
            Check.due("of kind " + kind, x.place(asking), kind == 3 ? NONE : 0);
        }
        HostPacker x = Make.hosts(9, 9);
        Make.standing(x, 0, 9, 0, 0, 0, 0);
        Make.standing(x, 0, 1, 0, 0, 0, 1);
        x.place(Make.job(x, 0, 9, 9, 0, 0, Make.on(0)));
        Check.due("who stands elsewhere stays", x.told(1, 0), 1);
    }

    /** Three jobs of 3 with the priorities told, on a host of 9, and what goes for one of 9 that asks for so much. */
    private static void goes(int first, int second, int third, int asks, int... goers) {
        HostPacker x = Make.hosts(9);
        int[] priorities = {first, second, third};
        for (int priority : priorities) {
            Make.standing(x, 0, 3, priority, 0, 0, 0);
        }
        int asking = Make.job(x, 0, asks, 9, 0, 0, Make.ANY);
        Check.due("asks for " + asks, x.place(asking), goers.length > 0 ? 0 : NONE);
        Check.due("how many", x.gone(), goers.length);
        for (int job = 0; job < 3; job++) {
            boolean went = false;
            for (int goer : goers) {
                went |= goer == job;
            }
            Check.due("job " + job, x.told(job, 0), went ? 0 : 1);
        }
    }

    private static void askingLeastFirst() {
        Check.says(0, "the least PRIORITY first");
        goes(1, 2, 3, 1, 0);
        goes(2, 1, 3, 1, 1);
        goes(3, 2, 1, 1, 2);
        goes(0, 8, 8, 3, 0);
        goes(1, 2, 3, 6, 0, 1);
        goes(3, 2, 1, 6, 2, 1);
        goes(1, 3, 2, 6, 0, 2);
        goes(8, 0, 7, 9, 0, 1, 2);
        HostPacker x = Make.hosts(9);
        Make.standing(x, 0, 1, 1, 0, 0, 0);
        Make.standing(x, 0, 8, 2, 0, 0, 0);
        Check.due("the second alone would do", x.place(Make.job(x, 0, 8, 9, 0, 0, Make.ANY)), 0);
        Check.due("the first goes before it", x.gone(), 2);
    }

    private static void askingLatestFirst() {
        Check.says(0, "of these the one that was placed (or moved) latest first");
        goes(4, 4, 4, 1, 2);
        goes(4, 4, 4, 4, 2, 1);
        goes(4, 4, 5, 1, 1);
        goes(4, 4, 3, 4, 2, 1);
        HostPacker x = Make.hosts(9, 9);
        int both = Make.on(0, 1);
        for (int i = 0; i < 3; i++) {
            Make.put(x, Make.plain(x, 3, both), 0);
        }
        Check.due("moved away", x.move(1, 1), 0);
        Check.due("and back", x.move(1, 0), 1);
        Check.due("place", x.place(Make.job(x, 0, 1, 1, 0, 0, Make.on(0))), 0);
        Check.due("the moved one went", x.told(1, 0), 0);
        Check.due("the last placed stays", x.told(2, 0), 1);
        x = Make.hosts(9);
        Make.plain(x, 3, Make.ANY);
        Make.plain(x, 3, Make.ANY);
        x.place(1);
        x.place(0);
        Make.standing(x, 3, 0);
        x.end(2);
        Check.due("place", x.place(Make.job(x, 0, 6, 1, 0, 0, Make.ANY)), 0);
        Check.due("the lesser number was placed later", x.told(0, 0), 0);
        Check.due("the greater number earlier", x.told(1, 0), 1);
    }

    private static void askingUntilItFits() {
        Check.says(0, "until it FITS: those are what must GO there");
        goes(1, 1, 1, 3, 2);
        goes(1, 1, 1, 4, 2, 1);
        goes(1, 1, 1, 6, 2, 1);
        goes(1, 1, 1, 7, 0, 1, 2);
        goes(1, 1, 1, 9, 0, 1, 2);
        HostPacker x = Make.halls(0, 1);
        Make.standing(x, 1, 0, 1, 2, 0, 0);
        Make.standing(x, 0, 0, 0, 3, 0, 0);
        int set = Make.job(x, 1, 0, 9, 2, 0, Make.on(0));
        Check.due("uneven", x.why(set, 0), 6);
        Check.due("until the set is even", x.place(set), 0);
        Check.due("two went", x.gone(), 2);
        x = Make.halls(0);
        Make.standing(x, 4, 0, 2, 1, 3, 0);
        Make.standing(x, 0, 0, 1, 2, 0, 0);
        int scared = Make.job(x, 0, 0, 9, 3, 0, Make.ANY);
        Check.due("until nobody scares it away", x.place(scared), 0);
        Check.due("two went", x.gone(), 2);
        x = Make.halls(0);
        Make.standing(x, 0, 0, 1, 2, 0, 0);
        Make.standing(x, 0, 0, 0, 2, 0, 0);
        int shy = Make.job(x, 4, 0, 9, 3, 2, Make.ANY);
        Check.due("until none of its other group is there", x.place(shy), 0);
        Check.due("two went", x.gone(), 2);
    }

    private static void askingAllDoNotDo() {
        Check.says(0, "(if all do not do, the HOST is none)");
        goes(1, 1, 1, 10);
        goes(1, 1, 9, 7);
        goes(9, 9, 9, 1);
        HostPacker x = Make.hosts(9, 12);
        Make.standing(x, 0, 9, 0, 0, 0, 0);
        Make.standing(x, 0, 12, 5, 0, 0, 1);
        Check.due("the other host", x.place(Make.job(x, 0, 10, 9, 0, 0, Make.ANY)), 1);
        Check.due("whose job stays", x.told(0, 0), 1);
        x = Make.hosts(9, 9);
        Make.standing(x, 0, 0);
        Check.due("taints stay", x.place(Make.job(x, 0, 1, 9, 0, 0, Make.on(3))), NONE);
        x = Make.hosts(9);
        Make.standing(x, 0, 5, 0, 2, 0, 0);
        Make.standing(x, 0, 4, 1, 3, 0, 0);
        Check.due("drawn to one that would go", x.place(Make.job(x, 5, 9, 9, 4, 2, Make.ANY)), NONE);
        Check.due("both stay", x.count(3), 2);
        x.fall(0);
        Check.due("down, with nobody on it", x.place(2), NONE);
        x = Make.hosts(9);
        Check.due("nobody to ask", x.place(Make.job(x, 0, 10, 9, 0, 0, Make.ANY)), NONE);
    }

    /** Hosts that two jobs of 5 with the priorities told fill each, in pairs; which one is asked. */
    private static void asked(int due, int went, int asks, int... priorities) {
        HostPacker x = new HostPacker();
        for (int host = 0; host < priorities.length / 2; host++) {
            Make.host(x, 10, 0);
            Make.standing(x, 0, 5, priorities[2 * host], 0, 0, host);
            Make.standing(x, 0, 5, priorities[2 * host + 1], 0, 0, host);
        }
        Check.due("the host", x.place(Make.job(x, 0, asks, 9, 0, 0, Make.ANY)), due);
        Check.due("how many went", x.gone(), went);
    }

    private static void askingWhichHost() {
        Check.says(0, "The HOST where the greatest PRIORITY of those is least");
        asked(1, 1, 5, 3, 4, 2, 8, 5, 5);
        asked(2, 2, 6, 0, 3, 0, 4, 2, 2);
        HostPacker x = Make.hosts(10, 10);
        Make.standing(x, 0, 10, 2, 0, 0, 0);
        Make.standing(x, 0, 5, 1, 0, 0, 1);
        Make.standing(x, 0, 5, 1, 0, 0, 1);
        Check.due("although more go", x.place(Make.job(x, 0, 10, 9, 0, 0, Make.ANY)), 1);
        Check.due("two", x.gone(), 2);

        Check.says(0, "of these the fewest GO");
        x = Make.hosts(10, 10, 10);
        Make.standing(x, 0, 5, 2, 0, 0, 0);
        Make.standing(x, 0, 5, 2, 0, 0, 0);
        Make.standing(x, 0, 10, 2, 0, 0, 1);
        Make.standing(x, 0, 10, 2, 0, 0, 2);
        Check.due("one, not two", x.place(Make.job(x, 0, 10, 9, 0, 0, Make.ANY)), 1);
        Check.due("one", x.gone(), 1);

        Check.says(0, "of these the least number");
        asked(0, 1, 5, 2, 2, 2, 2, 2, 2);
        asked(1, 1, 5, 9, 9, 2, 2, 2, 2);
        asked(0, 2, 6, 1, 2, 2, 2, 2, 2);
        x = Make.many(10, 5);
        for (int i = 0; i < 10; i++) {
            int job = Make.job(x, 0, 5, i == 9 ? 7 : 8, 0, 0, 0);
            Check.due("fill", x.place(job), i);
        }
        Check.due("the last of ten hosts", x.place(Make.job(x, 0, 5, 9, 0, 0, 0)), 9);
        for (int i = 11; i < 23; i++) {
            Make.plain(x, 0, 0);
        }
        int last = Make.job(x, 0, 5, 9, 0, 0, 0);
        Check.due("the last of 24 jobs asks", x.place(last), 0);
        x.fall(0);
        Check.due("it asks another", x.place(last), 1);
        Check.due("all that stand are as great as it, or do not do", x.place(9), NONE);
    }

    private static void askingByFixed() {
        Check.says(0, "(FIXED JOBS ask nobody to GO.)");
        for (int kind = 0; kind < 6; kind++) {
            HostPacker x = Make.halls(0);
            Make.standing(x, 0, 0, 9, 6, 0, 0);
            Make.standing(x, 0, 100, 0, 1, 0, 0);
            int asking = Make.job(x, kind, 1, 9, 2, kind == 5 ? 6 : 3, Make.ANY);
            Check.due("kind " + kind, x.place(asking), kind == 2 ? NOT : kind == 3 ? NONE : 0);
            Check.due("who stood there", x.told(1, 0), kind == 2 || kind == 3 ? 1 : 0);
        }
    }

    private static void whoWentWaits() {
        Check.says(0, "they WAIT again, the JOB STANDS there");
        HostPacker x = Make.hosts(9);
        Make.standing(x, 0, 4, 1, 0, 0, 0);
        Make.standing(x, 0, 5, 2, 0, 0, 0);
        int asking = Make.job(x, 0, 8, 3, 0, 0, Make.ANY);
        Check.due("place", x.place(asking), 0);
        for (int job = 0; job < 2; job++) {
            Check.due("waits", x.told(job, 0), 0);
            Check.due("nowhere", x.told(job, 1), NONE);
            Check.due("no turn", x.told(job, 2), NONE);
        }
        Check.due("stands", x.told(asking, 1), 0);
        Check.due("as the third", x.told(asking, 2), 3);
        Check.due("what it took", x.left(0, 0), 1);
        Check.due("two wait", x.count(2), 2);
        Check.due("who went may not ask back", x.place(1), NONE);
        x.end(asking);
        Check.due("but be placed", x.place(1), 0);
    }

    private static void goneEdges() {
        Check.says(10, "How many had to GO by the latest place() that told a HOST");
        HostPacker x = Make.hosts(24, 1);
        Check.due("none was placed", x.gone(), 0);
        for (int i = 0; i < 22; i++) {
            Make.standing(x, 1, 0);
        }
        Check.due("nobody had to", x.gone(), 0);
        Make.job(x, 0, 24, 1, 0, 0, Make.on(0));
        Check.due("place", x.place(22), 0);
        Check.due("all 22", x.gone(), 22);
        Check.due("NONE", x.place(0), NONE);
        Check.due("as before", x.gone(), 22);
        Check.due("NOT", x.place(22), NOT);
        Check.due("BAD", x.place(24), BAD);
        Check.due("as before", x.gone(), 22);
        x.end(0);
        x.fall(1);
        x.rise(1);
        Check.due("no place() since", x.gone(), 22);
        Make.plain(x, 1, Make.ANY);
        Check.due("place", x.place(23), 1);
        Check.due("nobody had to", x.gone(), 0);
        x = Make.hosts(9);
        Make.standing(x, 9, 0);
        x.place(Make.job(x, 0, 9, 1, 0, 0, Make.ANY));
        Check.due("one", x.gone(), 1);
        Make.job(x, 2, 0, 0, 0, 0, Make.ANY);
        x.gang(0);
        Check.due("a gang is no place()", x.gone(), 1);
        x.undo();
        x.undo();
        x.undo();
        Check.due("who went stands again", x.told(0, 0), 1);
        Check.due("undo() is no place()", x.gone(), 1);
    }

    private static void gangNumbers() {
        Check.says(11, "A GANG: how many STAND now");
        HostPacker x = Make.hosts(1000);
        for (int i = 0; i < 24; i++) {
            Make.job(x, 2, 1, 0, i == 0 ? 0 : 7, 0, Make.ANY);
        }
        Check.due("one, of the first group", x.gang(0), 1);
        Check.due("all the others, of the last group", x.gang(7), 23);
        Check.due("all stand", x.count(3), 24);
        x.undo();
        x.undo();
        Check.due("all wait", x.count(2), 24);
        Check.due("all but one stand", x.gang(7), 23);
        Check.due("one waits", x.told(0, 0), 0);

        Check.says(11, "BAD");
        for (int wrong : Make.outside(0, 7)) {
            Check.due("group " + wrong, x.gang(wrong), BAD);
        }
        Check.due("BAD, with nothing there", new HostPacker().gang(8), BAD);
    }

    private static void gangRefusals() {
        Check.says(11, "NOT: none of it WAITS");
        HostPacker x = new HostPacker();
        for (int group = 0; group < 8; group++) {
            Check.due("no jobs", x.gang(group), NOT);
        }
        for (int kind = 0; kind < 6; kind++) {
            Make.job(x, kind, 0, 0, 1, 1, Make.ANY);
            Check.due("of kind " + kind + ", no hosts", x.gang(1), kind < 2 ? NOT : NONE);
        }
        Make.host(x, 9, 0);
        Check.due("another group", x.gang(2), NOT);
        Check.due("one of it", x.gang(1), 1);
        Check.due("it stands", x.gang(1), NOT);
        x.end(2);
        Check.due("it has ended", x.gang(1), NOT);
        Make.job(x, 2, 0, 0, 1, 1, Make.ANY);
        Check.due("another of it", x.gang(1), 1);
        x.fall(0);
        Check.due("it waits, all hosts are down", x.gang(1), NONE);
    }

    private static void gangInOrder() {
        Check.says(0, "A GANG is all JOBS of KIND 2 of a GROUP that WAIT, in order of numbers: "
                + "each on its BEST HOST, one after the other (nobody GOES)");
        HostPacker x = Make.hosts(9, 9, 8);
        Make.job(x, 2, 3, 0, 1, 0, Make.ANY);
        Make.job(x, 0, 1, 0, 1, 0, Make.ANY);
        Make.job(x, 2, 1, 0, 1, 0, Make.ANY);
        Make.job(x, 2, 1, 0, 2, 0, Make.ANY);
        Make.job(x, 2, 1, 0, 1, 0, Make.ANY);
        Make.job(x, 2, 1, 0, 1, 0, Make.ANY);
        Check.due("four of it", x.gang(1), 4);
        int[] host = {0, NONE, 1, NONE, 2, 1};
        int[] turn = {1, NONE, 2, NONE, 3, 4};
        for (int job = 0; job < 6; job++) {
            Check.due("host of " + job, x.told(job, 1), host[job]);
            Check.due("turn of " + job, x.told(job, 2), turn[job]);
        }
        Check.due("nobody went", x.gone(), 0);
        Make.job(x, 2, 2, 0, 1, 0, Make.ANY);
        Check.due("those that stand already are not counted", x.gang(1), 1);
        Check.due("and stay", x.told(0, 2), 1);
        x = Make.hosts(9);
        Make.standing(x, 0, 9, 0, 0, 0, 0);
        Make.job(x, 2, 1, 9, 1, 0, Make.ANY);
        Check.due("lesser ones stay", x.gang(1), NONE);
        Check.due("it stands", x.told(0, 0), 1);
        x = Make.halls(0, 1);
        Make.job(x, 2, 1, 0, 1, 0, Make.on(0));
        Make.job(x, 2, 1, 0, 1, 0, Make.on(0));
        Make.job(x, 2, 1, 0, 1, 0, Make.on(1));
        Check.due("the second comes before the third", x.gang(1), NONE);
        x = Make.halls(0, 1);
        Make.job(x, 2, 1, 0, 1, 0, Make.on(0));
        Make.job(x, 2, 1, 0, 1, 0, Make.on(1));
        Make.job(x, 2, 1, 0, 1, 0, Make.on(0));
        Check.due("in another order", x.gang(1), 3);
    }

    private static void gangAllOrNone() {
        Check.says(0, "if one has none, none STANDS");
        Check.says(11, "NONE: one has no HOST");
        for (int bad = 0; bad < 4; bad++) {
            HostPacker x = Make.hosts(9, 9);
            for (int i = 0; i < 3; i++) {
                Make.job(x, 2, i == bad ? 10 : 3, 0, 1, 0, Make.ANY);
            }
            int undos = x.count(7);
            Check.due("all but " + bad, x.gang(1), bad < 3 ? NONE : 3);
            Check.due("how many stand", x.count(3), bad < 3 ? 0 : 3);
            Check.due("what is taken", x.left(0, 0) + x.left(1, 0), bad < 3 ? 18 : 9);
            Check.due("to be undone", x.count(7) - undos, bad < 3 ? 0 : 1);
        }
        HostPacker x = Make.hosts(9);
        for (int i = 0; i < 3; i++) {
            Make.job(x, 2, 4, 0, 1, 0, Make.ANY);
        }
        Check.due("no room for the third", x.gang(1), NONE);
        x.end(1);
        Check.due("room for two", x.gang(1), 2);
        Check.due("one is left", x.left(0, 0), 1);
    }

    private static void endEdges() {
        Check.says(12, "A JOB that STANDS has ENDED, or one that WAITS: 1");
        HostPacker x = Make.many(1, 24);
        for (int kind = 0; kind < 6; kind++) {
            Make.job(x, kind, 1, 0, 3, kind == 4 ? 7 : 3, 0);
        }
        Check.due("stands", x.place(0), 0);
        Check.due("a gang", x.gang(3), 1);
        Check.due("end", x.end(0), 1);
        Check.due("has ended", x.told(0, 0), 2);
        Check.due("takes nothing", x.left(0, 0), 23);
        for (int kind = 1; kind < 6; kind++) {
            Check.due("kind " + kind, x.end(kind), 1);
            Check.due("has ended", x.told(kind, 0), 2);
        }
        Check.due("all", x.count(4), 6);
        Check.due("nobody takes anything", x.left(0, 0), 24);

        Check.says(12, "NOT: it has already");
        for (int kind = 0; kind < 6; kind++) {
            Check.due("kind " + kind, x.end(kind), NOT);
        }
        Make.standing(x, 3, 1, 0, 0, 0, 0);
        x.fall(0);
        Check.due("a fixed one, as its host fell", x.end(6), NOT);

        Check.says(12, "BAD");
        for (int wrong : Make.outside(0, 6)) {
            Check.due("job " + wrong, x.end(wrong), BAD);
        }
        while (x.count(1) < 24) {
            Make.plain(x, 1, 0);
        }
        Check.due("the last", x.end(23), 1);
        Check.due("past the last", x.end(24), BAD);
    }

    private static void fallEdges() {
        Check.says(13, "A HOST FALLS: how many JOBS WAIT again");
        HostPacker x = Make.many(9, 0);
        x.host(24, 24, 24, 0, 0);
        Check.due("none", x.fall(0), 0);
        for (int i = 0; i < 24; i++) {
            Check.due("place", x.place(Make.plain(x, 1, 0)), 9);
        }
        Check.due("all 24", x.fall(9), 24);
        Check.due("all wait", x.count(2), 24);
        Check.due("all is left", x.left(9, 0), 24);
        Check.due("eight are up", x.count(5), 8);

        Check.says(0, "A HOST FALLS: it is DOWN; its JOBS WAIT, but FIXED ones have ENDED");
        x = Make.hosts(24, 24);
        for (int kind = 0; kind < 6; kind++) {
            Make.job(x, kind, 1, 0, 3, kind == 4 ? 7 : 3, Make.on(0));
        }
        Make.standing(x, 1, 1);
        int waiting = Make.plain(x, 1, Make.ANY);
        x.gang(3);
        for (int kind = 0; kind < 6; kind++) {
            x.place(kind);
        }
        Check.due("all of it stand", x.count(3), 7);
        Check.due("five wait again", x.fall(0), 5);
        for (int kind = 0; kind < 6; kind++) {
            Check.due("kind " + kind, x.told(kind, 0), kind == 3 ? 2 : 0);
            Check.due("nowhere", x.told(kind, 1), NONE);
        }
        Check.due("who stands elsewhere stays", x.told(6, 1), 1);
        Check.due("it is down", x.why(waiting, 0), 1);
        Check.due("only fixed ones", x.rise(0), 1);
        Make.standing(x, 3, 1, 0, 0, 0, 0);
        Check.due("none waits again", x.fall(0), 0);
        Check.due("it has ended", x.told(8, 0), 2);

        Check.says(13, "NOT: it is DOWN");
        Check.due("once more", x.fall(0), NOT);
        x.rise(0);
        Check.due("after it was up", x.fall(0), 0);

        Check.says(13, "BAD");
        for (int wrong : Make.outside(0, 1)) {
            Check.due("host " + wrong, x.fall(wrong), BAD);
        }
        x = Make.many(10, 1);
        Check.due("the last", x.fall(9), 0);
        Check.due("past the last", x.fall(10), BAD);
    }

    private static void riseEdges() {
        Check.says(14, "A HOST is UP again: 1");
        HostPacker x = Make.many(10, 1);
        Make.plain(x, 1, 0);
        x.place(0);
        x.fall(0);
        x.fall(9);
        Check.due("the first", x.rise(0), 1);
        Check.due("the last", x.rise(9), 1);
        Check.due("all are up", x.count(5), 10);
        Check.due("who waits goes on waiting", x.told(0, 0), 0);
        Check.due("and fits there", x.why(0, 0), 0);

        Check.says(14, "NOT: it is UP");
        Check.due("again", x.rise(0), NOT);
        Check.due("as it came", x.rise(5), NOT);

        Check.says(14, "BAD");
        for (int wrong : Make.outside(0, 9)) {
            Check.due("host " + wrong, x.rise(wrong), BAD);
        }
        Check.due("past the last", Make.many(3, 1).rise(3), BAD);
    }

    private static void moveNumbers() {
        Check.says(15, "A JOB that STANDS is moved to a HOST on which it FITS (as if it WAITED): "
                + "the HOST where it was");
        HostPacker x = Make.many(10, 5);
        for (int i = 0; i < 24; i++) {
            Make.plain(x, i == 23 ? 5 : 0, 0);
        }
        Make.put(x, 23, 9);
        Check.due("the last job, from the last host to the first", x.move(23, 0), 9);
        Check.due("its host", x.told(23, 1), 0);
        Check.due("nothing is left there", x.left(0, 0), 0);
        Check.due("all is left behind", x.left(9, 0), 5);
        Check.due("its turn", x.told(23, 2), 3);
        Check.due("and back", x.move(23, 9), 0);

        Check.says(15, "BAD");
        for (int wrong : Make.outside(0, 23)) {
            Check.due("job " + wrong, x.move(wrong, 0), BAD);
        }
        for (int wrong : Make.outside(0, 9)) {
            Check.due("host " + wrong, x.move(23, wrong), BAD);
        }
        x = Make.many(2, 5);
        Make.plainOn(x, 1, 0);
        Check.due("the first job that is not there", x.move(1, 1), BAD);
        Check.due("the first host that is not there", x.move(0, 2), BAD);
        x.end(0);
        Check.due("BAD before NOT", x.move(0, 2), BAD);
    }

    private static void moveRefusals() {
        Check.says(15, "NOT: it does not STAND, is FIXED, or STANDS there");
        for (int kind = 0; kind < 6; kind++) {
            HostPacker x = Make.hosts(9, 9);
            Make.standing(x, 0, 0, 0, 3, 0, 0);
            Make.job(x, kind, 1, 0, 1, kind == 5 ? 3 : 7, Make.on(0, 1));
            Check.due("waits", x.move(1, 0), NOT);
            x.fall(1);
            Check.due("stands", kind == 2 ? x.gang(1) - 1 : x.place(1), 0);
            Check.due("NOT before NONE: there, kind " + kind, x.move(1, 0), NOT);
            Check.due("to one that is down, kind " + kind, x.move(1, 1), kind == 3 ? NOT : NONE);
            x.rise(1);
            Check.due("kind " + kind, x.move(1, 1), kind == 3 ? NOT : 0);
            x.end(1);
            Check.due("has ended", x.move(1, 0), NOT);
        }
        Check.says(15, "NONE: it does not FIT");
        HostPacker x = Make.hosts(100, 100, 100);
        Make.standing(x, 96, 1);
        Make.standing(x, 95, 2);
        Make.put(x, Make.plain(x, 5, Make.ANY), 0);
        Check.due("one more than is left", x.move(2, 1), NONE);
        Check.due("it stays", x.told(2, 1), 0);
        Check.due("as much as is left", x.move(2, 2), 0);
        Make.put(x, Make.plain(x, 0, Make.on(0, 1)), 0);
        Check.due("a taint", x.move(3, 2), NONE);
        Check.due("none", x.move(3, 1), 0);
        x = Make.halls(0, 1);
        Make.standing(x, 4, 0, 0, 6, 5, 1);
        Make.put(x, Make.job(x, 0, 0, 0, 5, 0, Make.ANY), 0);
        Check.due("scared away", x.move(1, 1), NONE);
        Make.put(x, Make.job(x, 4, 0, 0, 1, 6, Make.ANY), 0);
        Check.due("shy", x.move(2, 1), NONE);
        Make.put(x, Make.job(x, 5, 0, 0, 1, 5, Make.ANY), 0);
        Check.due("drawn", x.move(3, 1), NONE);
    }

    private static void moveAsIfItWaited() {
        Check.says(15, "to a HOST on which it FITS (as if it WAITED)");
        HostPacker x = Make.halls(0, 0, 1);
        Make.put(x, Make.job(x, 1, 0, 0, 2, 0, Make.ANY), 0);
        Check.due("one set in the hall of two hosts", x.move(0, 1), 0);
        Check.due("to the hall that has none", x.move(0, 2), 1);
        Check.due("and back", x.move(0, 0), 2);
        Make.standing(x, 1, 0, 0, 2, 0, 2);
        Check.due("two in a hall", x.move(0, 2), NONE);
        x = Make.halls(0, 0);
        int other = Make.standing(x, 0, 0, 0, 3, 0, 0);
        Make.put(x, Make.job(x, 5, 0, 0, 3, 3, Make.ANY), 0);
        Check.due("drawn to another", x.move(1, 1), 0);
        x.end(other);
        Check.due("not to itself", x.move(1, 0), NONE);
        x = Make.halls(0, 0);
        Make.put(x, Make.job(x, 4, 0, 0, 3, 3, Make.ANY), 0);
        Check.due("nor shy of itself", x.move(0, 1), 0);
    }
}
