import java.util.function.Supplier;
import java.util.function.ToIntFunction;

/** What is refused changes nothing, and of several refusals the first is answered. */
final class RefusalEdges {
    private static final int BAD = -1, NOT = -2, NONE = -3, GREAT = -4;

    private RefusalEdges() {
    }

    static void check() {
        nothingThere();
        hostsAndJobs();
        placing();
        whatWouldBe();
        full();
        accepted();
        acceptedAmongAllKinds();
        order();
    }

    /** Two objects are made by the same calls; one is asked; they must tell the same from then on. */
    private static void unchanged(String what, Supplier<HostPacker> world, int due, ToIntFunction<HostPacker> call) {
        HostPacker asked = world.get();
        Check.due(what, call.applyAsInt(asked), due);
        Check.due(what + ": all is as it was", Make.toldNow(asked).equals(Make.toldNow(world.get())));
        asked = world.get();
        call.applyAsInt(asked);
        Check.due(what + ": nor is there more to undo", Make.toldBack(asked).equals(Make.toldBack(world.get())));
        asked = world.get();
        call.applyAsInt(asked);
        Check.due(what + ": asked once more", call.applyAsInt(asked), due);
    }

    private static void nothingThere() {
        Check.says(0, "What is refused changes nothing");
        unchanged("host", HostPacker::new, BAD, x -> x.host(0, 0, 0, 5, 0));
        unchanged("job", HostPacker::new, BAD, x -> x.job(0, 0, 0, 0, 0, 8, 0, 0));
        unchanged("weight", HostPacker::new, -1001, x -> x.weight(1, 101));
        unchanged("place", HostPacker::new, BAD, x -> x.place(0));
        unchanged("gang", HostPacker::new, NOT, x -> x.gang(0));
        unchanged("target", HostPacker::new, BAD, x -> x.target(0, -1));
        unchanged("undo", HostPacker::new, NOT, HostPacker::undo);
    }

    private static void hostsAndJobs() {
        Check.says(0, "What is refused changes nothing");
        unchanged("host", Make::busy, BAD, x -> x.host(1001, 1, 1, 1, 1));
        unchanged("host", Make::busy, BAD, x -> x.host(1, 1, 1, 1, 256));
        unchanged("job", Make::busy, BAD, x -> x.job(6, 1, 1, 1, 1, 1, 1, 1));
        unchanged("job", Make::busy, BAD, x -> x.job(4, 1, 1, 1, 1, 1, 1, -1));
        unchanged("weight", Make::busy, -1001, x -> x.weight(3, 1));
        unchanged("weight", Make::busy, -1001, x -> x.weight(2, -101));
        unchanged("why", Make::busy, BAD, x -> x.why(10, 4));
        unchanged("why", Make::busy, NOT, x -> x.why(0, 0));
        unchanged("points", Make::busy, -1000001, x -> x.points(13, 0));
        unchanged("points", Make::busy, -1000002, x -> x.points(0, 0));
        unchanged("left", Make::busy, BAD, x -> x.left(0, 3));
        unchanged("told", Make::busy, BAD, x -> x.told(0, 6));
    }

    private static void placing() {
        Check.says(0, "What is refused changes nothing");
        unchanged("place", Make::busy, BAD, x -> x.place(13));
        unchanged("place one that stands", Make::busy, NOT, x -> x.place(1));
        unchanged("place one of a gang", Make::busy, NOT, x -> x.place(3));
        unchanged("place one that has ended", Make::busy, NOT, x -> x.place(8));
        unchanged("place one too great", Make::busy, NONE, x -> x.place(9));
        unchanged("gang", Make::busy, BAD, x -> x.gang(8));
        unchanged("gang that none waits of", Make::busy, NOT, x -> x.gang(2));
        unchanged("gang with one too great", Make::busy, NONE, x -> x.gang(3));
        unchanged("end", Make::busy, BAD, x -> x.end(13));
        unchanged("end one that has", Make::busy, NOT, x -> x.end(8));
        unchanged("fall", Make::busy, BAD, x -> x.fall(4));
        unchanged("fall of one that is down", Make::busy, NOT, x -> x.fall(3));
        unchanged("rise", Make::busy, BAD, x -> x.rise(4));
        unchanged("rise of one that is up", Make::busy, NOT, x -> x.rise(0));
        unchanged("move", Make::busy, BAD, x -> x.move(1, 4));
        unchanged("move one that waits", Make::busy, NOT, x -> x.move(4, 1));
        unchanged("move a fixed one", Make::busy, NOT, x -> x.move(0, 1));
        unchanged("move one to where it stands", Make::busy, NOT, x -> x.move(1, 1));
        unchanged("move one to where it does not fit", Make::busy, NONE, x -> x.move(6, 2));
        unchanged("a gang whose last has no host", RefusalEdges::gangOfThree, NONE, x -> x.gang(1));
    }

    private static HostPacker gangOfThree() {
        HostPacker x = Make.hosts(9, 9);
        for (int i = 0; i < 3; i++) {
            Make.job(x, 2, i == 2 ? 19 : 3, 0, 1, 0, Make.ANY);
        }
        return x;
    }

    private static HostPacker waitingTarget() {
        HostPacker x = Make.busy();
        x.target(10, 0);
        return x;
    }

    private static HostPacker noWay() {
        HostPacker x = Make.busy();
        x.target(1, 3);
        return x;
    }

    private static HostPacker drawnFirst() {
        HostPacker x = Make.halls(0, 0);
        Make.job(x, 5, 1, 0, 1, 2, Make.ANY);
        Make.standing(x, 0, 0, 0, 2, 0, 0);
        x.place(0);
        return x;
    }

    private static HostPacker fourOnAHost() {
        HostPacker x = Make.hosts(9, 9);
        for (int i = 0; i < 4; i++) {
            Make.put(x, Make.plain(x, 2, Make.ANY), 0);
        }
        return x;
    }

    private static void whatWouldBe() {
        Check.says(0, "What is refused changes nothing");
        unchanged("target", Make::busy, BAD, x -> x.target(1, 4));
        unchanged("target", Make::busy, BAD, x -> x.target(1, -2));
        unchanged("target", Make::busy, BAD, x -> x.target(13, -1));
        unchanged("plan of one that waits", RefusalEdges::waitingTarget, NOT, HostPacker::plan);
        unchanged("plan that there is none", RefusalEdges::noWay, NONE, HostPacker::plan);
        unchanged("step", Make::busy, BAD, x -> x.step(1, 0));
        unchanged("step", Make::busy, BAD, x -> x.step(0, 2));
        unchanged("fewest of none", RefusalEdges::drawnFirst, NONE, HostPacker::fewest);
        unchanged("would", Make::busy, BAD, x -> x.would(3, 4));
        unchanged("would of one that stands", Make::busy, NOT, x -> x.would(1, 0));
        unchanged("would of one that fits", Make::busy, NOT, x -> x.would(10, 0));
        unchanged("would of no change", RefusalEdges::noHost, NONE, x -> x.would(0, 0));
        unchanged("count", Make::busy, BAD, x -> x.count(8));
    }

    private static HostPacker noHost() {
        HostPacker x = Make.hosts(9);
        x.job(0, 10, 10, 0, 0, 0, 255, 0);
        return x;
    }

    private static void full() {
        Check.says(0, "What is refused changes nothing");
        unchanged("an eleventh host", Make::full, NOT, x -> x.host(1, 1, 1, 1, 1));
        unchanged("a 25th job", Make::full, NOT, x -> x.job(0, 1, 1, 1, 1, 1, 1, 1));
        unchanged("six targets", Make::full, GREAT, HostPacker::plan);
        unchanged("24 that stand", Make::full, GREAT, HostPacker::fewest);
        unchanged("five on a host", RefusalEdges::fiveOnAHost, GREAT, HostPacker::safe);
        unchanged("five on a host", RefusalEdges::fiveOnAHost, GREAT, HostPacker::worst);
        unchanged("a host that is up", Make::full, NOT, x -> x.rise(9));
        unchanged("a weight", Make::full, -1001, x -> x.weight(0, 101));
    }

    private static HostPacker fiveOnAHost() {
        HostPacker x = Make.busy();
        for (int i = 0; i < 5; i++) {
            Make.standing(x, 0, 1, 0, 7, 0, 1);
        }
        return x;
    }

    /** What only looks changes nothing either, not to speak of what it finds. */
    private static void accepted() {
        Check.says(0, "(each FITS when it is placed; others stay)");
        unchanged("safe", RefusalEdges::fourOnAHost, 1, HostPacker::safe);
        unchanged("no worst", RefusalEdges::fourOnAHost, NONE, HostPacker::worst);
        unchanged("worst", Make::busy, 0, HostPacker::worst);
        unchanged("not safe", Make::busy, 0, HostPacker::safe);
        Check.says(0, "from how JOBS STAND to told HOSTS for some of them (TARGETS)");
        unchanged("plan", Make::busy, 1, HostPacker::plan);
        Check.says(0, "if all of them were taken away and placed anew");
        unchanged("fewest", Make::busy, 2, HostPacker::fewest);
        Check.says(0, "the least change after which it FITS on an UP HOST");
        unchanged("would", Make::busy, 2, x -> x.would(9, 0));
        Check.says(5, "WHY a JOB does not FIT on a HOST (0: it does)");
        unchanged("why", Make::busy, 3, x -> x.why(9, 0));
        Check.says(6, "POINTS of a HOST for a JOB (whether it FITS or not)");
        unchanged("points", Make::busy, 300 - 37 - 8, x -> x.points(10, 0));
    }

    /** The same where each kind stands, and others of each kind wait. */
    private static void acceptedAmongAllKinds() {
        Check.says(0, "(each FITS when it is placed; others stay)");
        unchanged("worst", Make::mixed, 0, HostPacker::worst);
        unchanged("safe", Make::mixed, 0, HostPacker::safe);
        Check.says(0, "from how JOBS STAND to told HOSTS for some of them (TARGETS)");
        unchanged("plan", Make::mixed, 1, HostPacker::plan);
        Check.says(0, "if all of them were taken away and placed anew");
        unchanged("fewest", Make::mixed, 2, HostPacker::fewest);
        Check.says(0, "the least change after which it FITS on an UP HOST");
        unchanged("would", Make::mixed, 1, x -> x.would(8, 0));
        Check.says(22, "NONE: no such change");
        unchanged("would", Make::mixed, NONE, x -> x.would(13, 0));
        Check.says(0, "What is refused changes nothing");
        unchanged("gang", Make::mixed, NONE, x -> x.gang(3));
        unchanged("move", Make::mixed, NONE, x -> x.move(0, 1));
    }

    private static void order() {
        Check.says(0, "Refusals are answers, of several the first: BAD -1 (a number is not as told, or names nothing), "
                + "NOT -2 (as told), NONE -3 (as told), GREAT -4 (too much to look through)");
        Check.due("BAD", HostPacker.BAD, -1);
        Check.due("NOT", HostPacker.NOT, -2);
        Check.due("NONE", HostPacker.NONE, -3);
        Check.due("GREAT", HostPacker.GREAT, -4);
        HostPacker x = Make.full();
        Check.due("host: BAD before NOT", x.host(1, 1, 1, 5, 1), BAD);
        Check.due("job: BAD before NOT", x.job(0, 1, 1, 1, 1, 1, 256, 1), BAD);
        Check.due("why: BAD before NOT", x.why(0, 10), BAD);
        Check.due("points: BAD before NOT", x.points(0, 10), -1000001);
        Check.due("move: BAD before NOT", x.move(0, 10), BAD);
        Check.due("would: BAD before NOT", x.would(0, 4), BAD);
        Check.due("plan: GREAT", x.plan(), GREAT);
        x.end(1);
        Check.due("move: BAD before NOT", x.move(1, -1), BAD);
        Check.due("plan: NOT before GREAT", x.plan(), NOT);
        x = Make.hosts(1);
        Make.job(x, 2, 2, 0, 0, 0, Make.ANY);
        Check.due("place: NOT before NONE", x.place(0), NOT);
        Make.standing(x, 3, 1, 0, 0, 0, 0);
        Make.host(x, 0, 0);
        Check.due("move: NOT before NONE", x.move(1, 1), NOT);
        x.target(1, 1);
        Check.due("plan: NOT before NONE", x.plan(), NOT);
    }
}
