/** Promises 21 and 22, the fewest hosts and the least change, with FEWEST and WOULD of the terms. */
final class LeastEdges {
    private static final int BAD = -1, NOT = -2, NONE = -3, GREAT = -4;
    private static final String FEWEST = "FEWEST: how few HOSTS all JOBS that STAND and are not FIXED "
            + "could STAND on, if all of them were taken away and placed anew, in order of numbers, on any HOSTS on which they FIT then "
            + "(HOSTS with FIXED ones count, if one of the others is placed there)";
    private static final String WOULD = "WOULD, for a JOB that FITS nowhere: the least change after which "
            + "it FITS on an UP HOST, of these the first";
    private static final String TAINT = "1 one taint more TOLERATED (the least bit, then the least HOST)";
    private static final String LESS = "2 one AMOUNT asked less, by as much as it is too much "
            + "(the least much, then the least HOST)";
    private static final String GONE = "3 one JOB that STANDS gone (the least number, then the least HOST)";

    private LeastEdges() {
    }

    static void check() {
        fewestOfFew();
        fewestRoom();
        fewestWhere();
        fewestInOrder();
        fewestWithFixed();
        moreThanFive();
        fewestNone();
        wouldTaint();
        wouldLess();
        wouldGo();
        wouldLeastChange();
        wouldUpHosts();
        wouldNumbers();
        wouldRefusals();
    }

    private static void fewestOfFew() {
        Check.says(21, "FEWEST");
        HostPacker x = new HostPacker();
        Check.due("no hosts, no jobs", x.fewest(), 0);
        Make.plain(x, 1, 1);
        Make.host(x, 9, 0);
        Check.due("none stands", x.fewest(), 0);
        x.place(0);
        Check.due("one", x.fewest(), 1);
        x.end(0);
        Check.due("it has ended", x.fewest(), 0);
        x = Make.hosts(5, 5, 5, 5, 5);
        for (int i = 0; i < 5; i++) {
            Make.plainOn(x, 5, i);
        }
        Check.due("five on five", x.fewest(), 5);
        x.fall(2);
        Check.due("four stand", x.fewest(), 4);
    }

    private static void fewestRoom() {
        Check.says(0, FEWEST);
        for (int room = 4; room < 7; room++) {
            HostPacker x = Make.hosts(3, 3, room);
            Make.plainOn(x, 3, 0);
            Make.plainOn(x, 3, 1);
            Check.due("room " + room, x.fewest(), room < 6 ? 2 : 1);
            Check.due("none has moved", x.told(0, 1), 0);
            Check.due("nothing is taken", x.left(2, 0), room);
        }
        HostPacker x = Make.hosts(10, 6, 6);
        Make.plainOn(x, 5, 0);
        Make.plainOn(x, 1, 0);
        Make.plainOn(x, 4, 1);
        Make.plainOn(x, 6, 2);
        Check.due("two, if the first does not take the most room", x.fewest(), 2);
        Make.standing(x, 1, 1);
        Check.due("all room of two is one too little", x.fewest(), 3);
    }

    private static void fewestWhere() {
        Check.says(0, FEWEST);
        HostPacker x = Make.many(9, 1);
        x.host(9, 9, 9, 0, 0);
        for (int i = 0; i < 5; i++) {
            Make.plain(x, 1, 0);
            Make.put(x, i, i);
        }
        Check.due("all on the last of ten hosts", x.fewest(), 1);
        x.fall(9);
        Check.due("not on one that is down", x.fewest(), 5);
        x = Make.hosts(9, 9, 9);
        Make.put(x, Make.plain(x, 1, Make.on(0, 1)), 0);
        Make.put(x, Make.plain(x, 1, Make.on(1, 2)), 2);
        Check.due("taints leave one for both", x.fewest(), 1);
        Make.put(x, Make.job(x, 4, 1, 0, 5, 0, Make.ANY), 1);
        Check.due("the shy one can not be there", x.fewest(), 2);
        x = Make.halls(0, 0, 1);
        Make.put(x, Make.job(x, 1, 0, 0, 2, 0, Make.on(0, 1, 2)), 0);
        Make.put(x, Make.job(x, 1, 0, 0, 2, 0, Make.on(0, 1, 2)), 2);
        Make.put(x, Make.job(x, 1, 0, 0, 2, 0, Make.on(0, 1, 2)), 1);
        Check.due("a set stays spread", x.fewest(), 2);
    }

    private static void fewestInOrder() {
        Check.says(0, FEWEST);
        HostPacker x = Make.halls(0);
        Make.job(x, 5, 1, 0, 1, 2, 255);
        Make.standing(x, 0, 0, 0, 2, 0, 0);
        x.place(0);
        Check.due("placed before what it is drawn to", x.fewest(), NONE);
        x = Make.halls(0);
        Make.standing(x, 0, 0, 0, 2, 0, 0);
        Make.standing(x, 5, 1, 0, 1, 2, 0);
        Check.due("placed after it", x.fewest(), 1);
        x = Make.halls(0);
        Make.job(x, 5, 0, 0, 1, 2, 255);
        Make.standing(x, 3, 0, 0, 2, 0, 0);
        x.place(0);
        Check.due("drawn to a fixed one, that stays", x.fewest(), 1);
    }

    private static void fewestWithFixed() {
        Check.says(0, FEWEST);
        HostPacker x = Make.hosts(9, 9, 9);
        Make.standing(x, 3, 5, 0, 0, 0, 0);
        Make.standing(x, 3, 5, 0, 0, 0, 1);
        Check.due("fixed ones alone", x.fewest(), 0);
        Make.plainOn(x, 4, 2);
        Check.due("beside a fixed one, or not", x.fewest(), 1);
        Make.standing(x, 4, 0);
        Check.due("the host of a fixed one counts", x.fewest(), 2);
        x.end(2);
        Check.due("once", x.fewest(), 1);
        Make.put(x, Make.plain(x, 5, Make.on(0, 1, 2)), 2);
        Check.due("fixed ones stay in the way", x.fewest(), 2);
    }

    private static void moreThanFive() {
        Check.says(0, "with more than 5 of them GREAT");
        Check.says(21, "GREAT");
        HostPacker x = Make.hosts(24, 24);
        for (int i = 0; i < 5; i++) {
            Make.plainOn(x, 1, i % 2);
        }
        Check.due("five", x.fewest(), 1);
        for (int i = 0; i < 4; i++) {
            Make.standing(x, 3, 1, 0, 0, 0, 0);
        }
        Check.due("five, and fixed ones", x.fewest(), 1);
        Make.plain(x, 1, Make.ANY);
        Check.due("five, and one that waits", x.fewest(), 1);
        x.place(9);
        Check.due("six", x.fewest(), GREAT);
        Make.standing(x, 1, 0);
        Check.due("seven", x.fewest(), GREAT);
        x.end(0);
        Check.due("six", x.fewest(), GREAT);
        x.end(1);
        Check.due("five", x.fewest(), 1);
        x = Make.halls(0);
        Make.job(x, 5, 0, 0, 1, 2, 255);
        Make.standing(x, 0, 0, 0, 2, 0, 0);
        x.place(0);
        Check.due("none", x.fewest(), NONE);
        for (int i = 0; i < 4; i++) {
            Make.standing(x, 0, 0);
        }
        Check.due("with six it is not looked through", x.fewest(), GREAT);
    }

    private static void fewestNone() {
        Check.says(21, "NONE: they can not all be placed so");
        HostPacker x = Make.halls(0, 1);
        int drawn = Make.job(x, 5, 1, 0, 1, 2, 255);
        int other = Make.standing(x, 0, 0, 0, 2, 0, 0);
        x.place(drawn);
        Check.due("the first has nobody yet", x.fewest(), NONE);
        Check.due("all is as it was", x.left(0, 0), 99);
        x.end(other);
        Check.due("it has nobody at all", x.fewest(), NONE);
        x.end(drawn);
        Check.due("none stands", x.fewest(), 0);
        x = Make.hosts(9, 5);
        Make.plainOn(x, 5, 0);
        Make.put(x, Make.plain(x, 5, Make.on(1)), 1);
        Make.put(x, Make.plain(x, 4, Make.on(0)), 0);
        Check.due("all find room in one way alone", x.fewest(), 2);
    }

    private static void would(String what, HostPacker x, int job, int change, int of, int host, int much) {
        Check.due(what + ": which change", x.would(job, 0), change);
        Check.due(what + ": of what", x.would(job, 1), of);
        Check.due(what + ": the host", x.would(job, 2), host);
        Check.due(what + ": how much", x.would(job, 3), much);
    }

    private static void wouldTaint() {
        Check.says(0, TAINT);
        for (int bit = 0; bit < 8; bit++) {
            HostPacker x = new HostPacker();
            x.host(9, 9, 9, 0, 1 << bit);
            Make.plain(x, 9, 255 - (1 << bit));
            would("bit " + bit, x, 0, 1, bit, 0, 0);
            Check.due("it tolerates what it did", x.why(0, 0), 2);
        }
        HostPacker x = new HostPacker();
        int[] taints = {6, 4, 2, 2};
        for (int taint : taints) {
            x.host(9, 9, 9, 0, taint);
        }
        Make.plain(x, 9, 0);
        would("the least bit, then the least host", x, 0, 1, 1, 2, 0);
        x.fall(2);
        would("the next host", x, 0, 1, 1, 3, 0);
        Make.put(x, Make.plain(x, 1, 2), 3);
        would("it must fit there then", x, 0, 1, 2, 1, 0);
        x.fall(1);
        Make.plain(x, 9, 4);
        would("one lacks of two", x, 2, 1, 1, 0, 0);
        x.fall(3);
        Check.due("two lack", x.would(0, 0), NONE);
        x = Make.many(9, 1);
        x.host(9, 9, 9, 0, 128);
        Make.plain(x, 9, 0);
        would("the last host, the last bit", x, 0, 1, 7, 9, 0);
    }

    private static void wouldLess() {
        Check.says(0, LESS);
        for (int i = 0; i < 3; i++) {
            HostPacker x = new HostPacker();
            int[] has = {1000, 1000, 1000};
            has[i] = 0;
            x.host(has[0], has[1], has[2], 0, 0);
            x.job(0, 1000, 1000, 1000, 0, 0, 0, 0);
            would("amount " + i + ", all of it", x, 0, 2, i, 0, 1000);
            Check.due("it asks for what it did", x.points(0, 0), -1000);
            has[i] = 999;
            x.host(has[0], has[1], has[2], 0, 0);
            would("amount " + i + ", one of it", x, 0, 2, i, 1, 1);
            has[i] = 1000;
            has[(i + 1) % 3] = 999;
            x.host(has[0], has[1], has[2], 0, 0);
            would("as much of another, the least host", x, 0, 2, i, 1, 1);
            x.fall(1);
            would("the next", x, 0, 2, (i + 1) % 3, 2, 1);
        }
        HostPacker x = new HostPacker();
        x.host(9, 8, 8, 0, 0);
        x.host(8, 9, 8, 0, 0);
        x.host(8, 8, 9, 0, 0);
        x.job(0, 9, 9, 9, 0, 0, 0, 0);
        Check.due("two amounts are too much", x.would(0, 0), NONE);
        x = Make.many(10, 5);
        Make.plain(x, 8, 0);
        for (int host = 0; host < 9; host++) {
            Make.put(x, Make.plain(x, host == 4 ? 2 : 3, 0), host);
        }
        would("what is left counts: the last host", x, 0, 2, 0, 9, 3);
        Make.put(x, Make.plain(x, 1, 0), 9);
        would("the least much", x, 0, 2, 0, 9, 4);
        Make.put(x, Make.plain(x, 1, 0), 9);
        would("two with as much, the least host", x, 0, 2, 0, 4, 5);
    }

    private static void wouldGo() {
        Check.says(0, GONE);
        HostPacker x = new HostPacker();
        x.host(9, 9, 9, 0, 0);
        x.host(9, 9, 9, 1, 0);
        x.job(0, 5, 5, 0, 0, 0, 0, 0);
        x.job(0, 5, 5, 0, 9, 0, 0, 0);
        x.job(3, 5, 5, 0, 9, 0, 0, 0);
        x.job(0, 9, 9, 0, 0, 0, 0, 0);
        x.place(2);
        x.place(1);
        would("a fixed one of greater priority, too, but the least number first", x, 3, 3, 1, 1, 0);
        x.end(1);
        x.place(0);
        would("the least number", x, 3, 3, 0, 1, 0);
        Check.due("it stands", x.told(0, 1), 1);
        x.job(3, 5, 5, 0, 9, 0, 0, 0);
        x.end(0);
        x.place(4);
        would("a fixed one", x, 3, 3, 2, 0, 0);
        x = Make.halls(0, 0, 1);
        Make.standing(x, 4, 0, 0, 6, 2, 2);
        Make.standing(x, 1, 0, 0, 2, 0, 1);
        int set = Make.job(x, 1, 0, 0, 2, 0, Make.on(0, 1));
        would("the least host where it fits then, not the one of who is gone", x, set, 3, 1, 0, 0);
        x = Make.halls(0);
        for (int i = 0; i < 23; i++) {
            Make.standing(x, 0, 0, 0, i == 22 ? 5 : 4, 0, 0);
        }
        int shy = Make.job(x, 4, 0, 0, 6, 5, 255);
        would("the last but one", x, shy, 3, 22, 0, 0);
        x.end(22);
        Check.due("it is gone", x.place(shy), 0);
        x = Make.halls(0);
        Make.standing(x, 4, 0, 0, 6, 5, 0);
        Make.standing(x, 4, 0, 0, 6, 5, 0);
        int scared = Make.job(x, 0, 0, 0, 5, 0, 255);
        Check.due("two would have to go", x.would(scared, 0), NONE);
        x.end(0);
        would("one", x, scared, 3, 1, 0, 0);
        Check.due("one that waits can not go", x.would(Make.job(x, 5, 0, 0, 1, 3, 255), 0), NONE);
    }

    private static void wouldLeastChange() {
        Check.says(0, WOULD);
        HostPacker x = new HostPacker();
        x.host(8, 9, 9, 0, 0);
        x.host(9, 9, 9, 0, 128);
        x.host(9, 9, 9, 0, 0);
        Make.put(x, x.job(0, 9, 9, 0, 0, 0, 0, 0), 2);
        x.job(0, 9, 9, 9, 0, 0, 0, 0);
        would("1 before 2 and 3", x, 1, 1, 7, 1, 0);
        x.fall(1);
        would("2 before 3", x, 1, 2, 0, 0, 1);
        x.fall(0);
        would("3", x, 1, 3, 0, 2, 0);
        x.fall(2);
        Check.due("none", x.would(1, 0), NONE);
    }

    private static void wouldUpHosts() {
        Check.says(0, WOULD);
        HostPacker x = Make.hosts(9, 9);
        x.fall(0);
        x.fall(1);
        int tainted = Make.plain(x, 1, 0);
        int great = Make.plain(x, 10, Make.ANY);
        int small = Make.plain(x, 1, Make.ANY);
        for (int what = 0; what < 4; what++) {
            Check.due("a taint", x.would(tainted, what), NONE);
            Check.due("an amount", x.would(great, what), NONE);
            Check.due("neither", x.would(small, what), NONE);
        }
        x.rise(1);
        would("a taint", x, tainted, 1, 1, 1, 0);
        would("an amount", x, great, 2, 0, 1, 1);
        Check.due("neither", x.would(small, 0), NOT);
    }

    private static void wouldNumbers() {
        Check.says(22, "WOULD: 0 which change (1 .. 3), 1 the bit of the taint, the AMOUNT (0 .. 2), the JOB, "
                + "2 the HOST, 3 how much (of 2");
        Check.says(22, "else 0)");
        HostPacker x = Make.many(9, 0);
        x.host(5, 5, 5, 0, 0);
        for (int i = 0; i < 23; i++) {
            Make.plain(x, 5, 0);
        }
        Make.plain(x, 1000, 0);
        would("the last of each", x, 23, 2, 0, 9, 995);
        x.place(22);
        x.job(0, 0, 0, 0, 0, 0, 0, 0);
        would("the greatest job that can go", x, 0, 2, 0, 0, 5);

        x = Make.halls(0);
        Make.job(x, 4, 0, 0, 6, 5, 255);
        for (int i = 1; i < 24; i++) {
            Make.standing(x, 0, 0, 0, i == 23 ? 5 : 4, 0, 0);
        }
        would("the last of 24 jobs would have to go", x, 0, 3, 23, 0, 0);
        x.end(1);
        x.undo();
        x.undo();
        x.undo();
        Make.job(x, 5, 0, 0, 6, 7, 255);
        Check.due("none of 24 would", x.would(23, 0), NONE);
        x.undo();
        Make.plain(x, 1000, 255);
        would("an amount of the last", x, 23, 2, 0, 0, 900);

        Check.says(22, "BAD");
        for (int wrong : Make.outside(0, 23)) {
            Check.due("job " + wrong, x.would(wrong, 0), BAD);
        }
        for (int wrong : Make.outside(0, 3)) {
            Check.due("what " + wrong, x.would(23, wrong), BAD);
            Check.due("BAD before NOT", x.would(1, wrong), BAD);
        }
    }

    private static void wouldRefusals() {
        Check.says(22, "NOT: it does not WAIT, or FITS somewhere");
        HostPacker x = Make.hosts(9, 9);
        Make.plain(x, 9, Make.ANY);
        for (int what = 0; what < 4; what++) {
            Check.due("it fits", x.would(0, what), NOT);
        }
        x.place(0);
        Check.due("it stands", x.would(0, 0), NOT);
        x.end(0);
        Check.due("it has ended", x.would(0, 0), NOT);
        Make.job(x, 2, 9, 0, 0, 0, Make.on(1));
        Check.due("a gang one that fits", x.would(1, 0), NOT);
        x.fall(1);
        would("and one that does not", x, 1, 1, 0, 0, 0);
        Make.standing(x, 0, 9, 0, 0, 0, 0);
        Make.job(x, 0, 9, 9, 0, 0, Make.on(0));
        would("one that could ask others to go does not fit", x, 3, 2, 0, 0, 9);

        Check.says(22, "NONE: no such change");
        x = new HostPacker();
        Make.plain(x, 0, 255);
        Check.due("no hosts", x.would(0, 0), NONE);
        x.host(0, 0, 0, 0, 0);
        x.job(0, 1, 1, 0, 0, 0, 0, 0);
        Check.due("two amounts", x.would(1, 0), NONE);
        Check.due("drawn to nobody", x.would(Make.job(x, 5, 0, 0, 0, 0, 0), 0), NONE);
        Check.due("it fits", x.would(0, 0), NOT);
    }
}
