import java.util.List;
import java.util.function.Supplier;
import java.util.function.ToIntFunction;

/** Promises 23 and 24, undo and count, and how many calls an object is used for. */
final class UndoEdges {
    private static final int BAD = -1, NOT = -2, NONE = -3;
    private static final String LATEST = "The latest accepted host(), job(), weight(), place(), gang(), end(), "
            + "fall(), rise(), move(), target() is taken back";
    private static final String HOW_MANY = "How many: 0 HOSTS, 1 JOBS, 2 that WAIT, 3 STAND, 4 have ENDED, "
            + "5 HOSTS that are UP, 6 TARGETS, 7 what can be undone";
    /** Accepted calls of all kinds, more than can be taken back. */
    private static final List<ToIntFunction<HostPacker>> SCRIPT = List.of(
            x -> x.host(20, 20, 20, 0, 0), x -> x.host(20, 20, 20, 1, 1),
            x -> x.job(0, 5, 1, 1, 1, 1, 1, 0), x -> x.job(3, 5, 1, 1, 0, 1, 0, 0),
            x -> x.job(2, 5, 1, 1, 3, 2, 1, 0), x -> x.job(2, 5, 1, 1, 3, 2, 1, 0),
            x -> x.place(0), x -> x.place(1), x -> x.gang(2), x -> x.weight(1, -4), x -> x.target(0, 1),
            x -> x.move(0, 1 - x.told(0, 1)), x -> x.host(1, 2, 3, 4, 5),
            x -> x.job(0, 18, 1, 1, 9, 3, 255, 0), x -> x.place(4), x -> x.fall(0), x -> x.target(2, 0),
            x -> x.rise(0), x -> x.place(0), x -> x.end(4), x -> x.gang(2), x -> x.fall(1),
            x -> x.job(4, 0, 0, 0, 5, 5, 0, 6), x -> x.place(5), x -> x.weight(0, 0), x -> x.target(0, -1),
            x -> x.end(5), x -> x.rise(1), x -> x.weight(2, 50), x -> x.fall(2), x -> x.host(9, 9, 9, 3, 0),
            x -> x.job(5, 1, 1, 1, 1, 1, 1, 1), x -> x.rise(2), x -> x.place(6));

    private UndoEdges() {
    }

    static void check() {
        nothingToUndo();
        eachCall();
        eachKind();
        onlyAccepted();
        thirtyAtMost();
        noneTwice();
        backThroughAll();
        turnsAreTakenBack();
        countNumbers();
        countNone();
        countFull();
        countEach();
        lastOf512();
        undoAtTheLast();
    }

    private static void nothingToUndo() {
        Check.says(23, "NOT: there is none");
        HostPacker x = new HostPacker();
        Check.due("new", x.undo(), NOT);
        x.host(1, 1, 1, 1, 1);
        Check.due("one", x.undo(), 0);
        Check.due("it is undone", x.undo(), NOT);
        Check.due("and again", x.undo(), NOT);
        Check.due("no host", x.count(0), 0);
    }

    /** Two objects are made by the same calls; what one did besides is undone; they must tell the same. */
    private static void undone(String what, int due, ToIntFunction<HostPacker> call) {
        undone(what, Make::busy, due, call);
    }

    private static void undone(String what, Supplier<HostPacker> world, int due, ToIntFunction<HostPacker> call) {
        HostPacker x = world.get();
        int kept = x.count(7);
        Check.due(what, call.applyAsInt(x), due);
        Check.due(what + ": one more", x.count(7), kept + 1);
        Check.due(what + ": undone", x.undo(), kept);
        Check.due(what + ": all is as it was", Make.toldNow(x).equals(Make.toldNow(world.get())));
        x = world.get();
        call.applyAsInt(x);
        x.undo();
        Check.due(what + ": done once more", call.applyAsInt(x), due);
        HostPacker once = world.get();
        call.applyAsInt(once);
        Check.due(what + ": as if done once", Make.toldNow(x).equals(Make.toldNow(once)));
    }

    private static void eachCall() {
        Check.says(23, LATEST);
        undone("host", 4, x -> x.host(5, 6, 7, 0, 0));
        undone("job", 13, x -> x.job(3, 5, 6, 7, 1, 2, 3, 4));
        undone("weight 0", 1, x -> x.weight(0, 100));
        undone("weight 1", 10, x -> x.weight(1, -100));
        undone("weight 2, as it was", -6, x -> x.weight(2, -6));
        undone("place, nobody goes", 1, x -> x.place(10));
        undone("place, one goes", 2, x -> x.place(12));
        undone("gang", 1, x -> x.gang(6));
        undone("end of one that waits", 1, x -> x.end(10));
        undone("end of one that stands", 1, x -> x.end(6));
        undone("fall", 3, x -> x.fall(0));
        undone("fall of one without jobs", 1, x -> x.fall(1));
        undone("rise", 1, x -> x.rise(3));
        undone("move", 1, x -> x.move(1, 2));
        undone("target", 3, x -> x.target(9, 3));
        undone("another target", 2, x -> x.target(6, 3));
        undone("no target", 1, x -> x.target(6, -1));
        undone("no target, as it was", 2, x -> x.target(0, -1));
    }

    private static void eachKind() {
        Check.says(23, LATEST);
        undone("place a set one", Make::mixed, 2, x -> x.place(6));
        undone("place a shy one", Make::mixed, 0, x -> x.place(9));
        undone("place a drawn one", Make::mixed, 0, x -> x.place(11));
        undone("place a plain one", Make::mixed, 0, x -> x.place(12));
        undone("end a set one", Make::mixed, 1, x -> x.end(0));
        undone("end a gang one", Make::mixed, 1, x -> x.end(1));
        undone("end a plain one", Make::mixed, 1, x -> x.end(2));
        undone("end a shy one", Make::mixed, 1, x -> x.end(3));
        undone("end a fixed one", Make::mixed, 1, x -> x.end(4));
        undone("fall", Make::mixed, 3, x -> x.fall(1));
        undone("fall with a fixed one", Make::mixed, 1, x -> x.fall(2));
        undone("move a drawn one", Make::mixed, 2, x -> x.move(5, 1));
    }

    private static void onlyAccepted() {
        Check.says(23, LATEST);
        HostPacker x = Make.hosts(9, 9);
        Make.standing(x, 9, 0);
        x.host(1, 1, 1, 5, 1);
        x.job(0, 1, 1, 1, 1, 8, 1, 1);
        x.weight(3, 1);
        x.place(0);
        x.gang(0);
        x.end(1);
        x.fall(2);
        x.rise(0);
        x.move(0, 1);
        x.target(0, 2);
        x.why(0, 0);
        x.points(0, 0);
        x.safe();
        x.worst();
        x.plan();
        x.fewest();
        x.would(0, 0);
        Check.due("host, host, job, place", x.count(7), 4);
        Check.due("the place", x.undo(), 3);
        Check.due("it waits", x.told(0, 0), 0);
        Check.due("the job", x.undo(), 2);
        Check.due("no jobs", x.count(1), 0);
        Check.due("a host", x.undo(), 1);
        Check.due("one host", x.count(0), 1);
        Check.due("the first host", x.undo(), 0);
        Check.due("no hosts", x.count(0), 0);
    }

    private static void thirtyAtMost() {
        Check.says(23, "(30 at most, none twice): how many are left");
        for (int many : new int[] {1, 2, 28, 29, 30, 31, 32, 59, 60, 61, 62, 100}) {
            HostPacker x = new HostPacker();
            for (int i = 1; i <= many; i++) {
                x.weight(0, i - 50);
            }
            int kept = Math.min(many, 30);
            Check.due("to be undone of " + many, x.count(7), kept);
            for (int i = 1; i <= kept; i++) {
                Check.due("are left of " + many, x.undo(), kept - i);
            }
            Check.due("no more of " + many, x.undo(), NOT);
            Check.due("the oldest are not undone", x.weight(0, 0), many > 30 ? many - 80 : 1);
        }
    }

    private static void noneTwice() {
        Check.says(23, "(30 at most, none twice): how many are left");
        HostPacker x = new HostPacker();
        for (int i = 1; i <= 40; i++) {
            x.weight(0, i);
        }
        for (int i = 0; i < 10; i++) {
            x.undo();
        }
        Check.due("twenty are left", x.count(7), 20);
        Check.due("as before the last ten", x.weight(0, 77), 30);
        Check.due("one more", x.count(7), 21);
        Check.due("undone", x.undo(), 20);
        Check.due("as before it, not before the last ten once more", x.weight(1, 5), 10);
        Check.due("undone", x.undo(), 20);
        Check.due("one before", x.undo(), 19);
        for (int i = 0; i < 19; i++) {
            x.undo();
        }
        Check.due("no more", x.undo(), NOT);
        Check.due("thirty of forty were taken back", x.weight(0, 1), 10);
        for (int i = 0; i < 35; i++) {
            x.weight(0, i);
        }
        Check.due("thirty again", x.count(7), 30);
    }

    private static HostPacker afterCalls(int calls) {
        HostPacker x = new HostPacker();
        for (int i = 0; i < calls; i++) {
            Check.due("call " + i + " is accepted", SCRIPT.get(i).applyAsInt(x) >= 0);
        }
        return x;
    }

    private static void backThroughAll() {
        Check.says(23, "is taken back (30 at most, none twice): how many are left");
        int all = SCRIPT.size();
        Check.due("more than thirty are accepted", all > 30);
        for (int back = 0; back <= 30; back++) {
            HostPacker x = afterCalls(all);
            for (int i = 1; i <= back; i++) {
                Check.due("undo", x.undo(), 30 - i);
            }
            boolean same = Make.toldNow(x).equals(Make.toldNow(afterCalls(all - back)));
            Check.due(back + " taken back", same);
        }
    }

    private static void turnsAreTakenBack() {
        Check.says(23, "is taken back (30 at most, none twice): how many are left");
        HostPacker x = Make.hosts(9);
        Make.standing(x, 0, 5, 1, 0, 0, 0);
        Make.standing(x, 0, 4, 2, 0, 0, 0);
        x.place(Make.job(x, 0, 9, 3, 0, 0, Make.ANY));
        Check.due("two went", x.count(2), 2);
        x.undo();
        Check.due("the first placed", x.told(0, 2), 1);
        Check.due("the second placed", x.told(1, 2), 2);
        Check.due("where they stood", x.left(0, 0), 0);
        Check.due("who had asked waits", x.told(2, 0), 0);
        x.undo();
        x.undo();
        Check.due("the second waits", x.told(1, 2), NONE);
        Check.due("and is placed", x.place(1), 0);
        Check.due("as the second again", x.told(1, 2), 2);
    }

    private static void countNumbers() {
        Check.says(24, "BAD");
        HostPacker x = Make.busy();
        for (int wrong : Make.outside(0, 7)) {
            Check.due("what " + wrong, x.count(wrong), BAD);
        }
        Check.says(24, HOW_MANY);
        int[] due = {4, 13, 6, 6, 1, 3, 2, 29};
        for (int what = 0; what < 8; what++) {
            Check.due("what " + what, x.count(what), due[what]);
        }
    }

    private static void countNone() {
        Check.says(24, HOW_MANY);
        HostPacker x = new HostPacker();
        for (int what = 0; what < 8; what++) {
            Check.due("what " + what, x.count(what), 0);
        }
        x.host(1, 1, 1, 1, 1);
        x.fall(0);
        Check.due("one host", x.count(0), 1);
        Check.due("none is up", x.count(5), 0);
        Check.due("two to undo", x.count(7), 2);
    }

    private static void countFull() {
        Check.says(24, HOW_MANY);
        HostPacker x = Make.many(10, 24);
        for (int i = 0; i < 24; i++) {
            Make.plain(x, 1, 0);
        }
        Check.due("hosts", x.count(0), 10);
        Check.due("jobs", x.count(1), 24);
        Check.due("that wait", x.count(2), 24);
        Check.due("that are up", x.count(5), 10);
        for (int i = 0; i < 24; i++) {
            x.place(i);
            x.target(i, 0);
        }
        Check.due("stand", x.count(3), 24);
        Check.due("targets", x.count(6), 24);
        Check.due("none waits", x.count(2), 0);
        for (int i = 0; i < 24; i++) {
            x.end(i);
        }
        Check.due("have ended", x.count(4), 24);
        Check.due("none stands", x.count(3), 0);
        Check.due("still jobs", x.count(1), 24);
        Check.due("to undo", x.count(7), 30);
    }

    private static void countEach() {
        Check.says(24, HOW_MANY);
        HostPacker x = Make.hosts(9, 9);
        Make.standing(x, 0, 9, 0, 0, 0, 0);
        Make.standing(x, 3, 9, 0, 0, 0, 1);
        Make.plain(x, 9, Make.ANY);
        Check.due("stand", x.count(3), 2);
        Check.due("waits", x.count(2), 1);
        Make.job(x, 0, 9, 1, 0, 0, Make.ANY);
        x.place(3);
        Check.due("one went, one came", x.count(3), 2);
        Check.due("wait", x.count(2), 2);
        x.fall(1);
        Check.due("the fixed one has ended", x.count(4), 1);
        Check.due("one is up", x.count(5), 1);
        Check.due("hosts", x.count(0), 2);
        x.rise(1);
        Check.due("two are up", x.count(5), 2);
        x.target(0, 0);
        x.target(1, 1);
        Check.due("targets", x.count(6), 2);
        Check.due("all that was accepted", x.count(7), 13);
        x.undo();
        Check.due("one target", x.count(6), 1);
        Check.due("one less", x.count(7), 12);
    }

    private static void lastOf512() {
        Check.says(Doc.WHAT_IT_IS, "An object is used for at most 512 calls after it has been made");
        HostPacker x = new HostPacker();
        x.host(9, 9, 9, 0, 0);
        x.host(9, 9, 9, 0, 0);
        x.job(0, 9, 9, 9, 0, 0, 0, 0);
        int first = x.place(0);
        for (int call = 5; call < 511; call++) {
            int from = call % 2 == 1 ? first : 1 - first;
            Check.due("call " + call, x.move(0, 1 - from), from);
        }
        Check.due("call 511: moved 506 times", x.told(0, 2), 507);
        Check.due("call 512", x.undo(), 29);
        x = new HostPacker();
        for (int call = 1; call <= 510; call++) {
            x.host(0, 0, 0, -1, 0);
        }
        Check.due("call 511: nothing before it was accepted", x.host(0, 0, 0, 0, 0), 0);
        Check.due("call 512", x.count(0), 1);
    }

    private static void undoAtTheLast() {
        Check.says(Doc.WHAT_IT_IS, "An object is used for at most 512 calls after it has been made");
        HostPacker x = new HostPacker();
        for (int call = 1; call <= 480; call++) {
            x.weight(call % 3, call % 100);
        }
        for (int call = 481; call <= 510; call++) {
            Check.due("call " + call, x.undo(), 510 - call);
        }
        Check.due("call 511", x.undo(), NOT);
        Check.due("call 512: as 30 calls before", x.weight(0, 0), 50);
    }
}
