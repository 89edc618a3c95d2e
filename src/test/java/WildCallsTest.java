/** Numbers of every size, in every state, also past the 512th call: nothing may throw. */
public final class WildCallsTest {
    private static final int[] WILD = {Integer.MIN_VALUE, -1001, -101, -100, -3, -2, -1, 0, 1, 2, 3, 4,
        5, 7, 8, 9, 10, 23, 24, 30, 100, 101, 255, 256, 1000, 1001, 1 << 16, Integer.MAX_VALUE};
    private static final int PARAMETERS = 8;

    private static int answers;

    private WildCallsTest() {
    }

    /** Each number in each place, all else being right. */
    private static void hostsAndJobs(HostPacker x) {
        for (int place = 0; place < PARAMETERS; place++) {
            for (int wild : WILD) {
                int[] some = {1, 5, 5, 1, 1, 1, 1, 1};
                some[place] = wild;
                answers += x.host(some[0], some[1], some[2], some[3], some[4]) < 0 ? 0 : 1;
                answers += x.job(some[0], some[1], some[2], some[3], some[4], some[5], some[6], some[7])
                        < 0 ? 0 : 1;
            }
        }
    }

    private static void twoNumbers(HostPacker x, int a, int b) {
        x.weight(a, b);
        x.why(a, b);
        x.points(a, b);
        x.left(a, b);
        x.told(a, b);
        x.move(a, b);
        x.target(a, b);
        x.step(a, b);
        x.would(a, b);
    }

    private static void oneNumber(HostPacker x, int a) {
        x.place(a);
        x.gang(a);
        x.plan();
        x.safe();
        x.worst();
        x.fewest();
        x.fall(a);
        x.count(a);
        x.rise(a);
        x.end(a);
        x.gone();
    }

    private static void askAll(HostPacker x) {
        for (int a : WILD) {
            for (int b : WILD) {
                twoNumbers(x, a, b);
            }
            oneNumber(x, a);
        }
    }

    private static void undoAll(HostPacker x) {
        for (int i = 0; i < 40; i++) {
            x.undo();
        }
    }

    public static void main(String[] args) {
        askAll(new HostPacker());
        HostPacker x = new HostPacker();
        for (int round = 0; round < 3; round++) {
            hostsAndJobs(x);
            askAll(x);
            undoAll(x);
        }
        HostPacker busy = Make.busy();
        askAll(busy);
        undoAll(busy);
        Check.due("some hosts and jobs came", answers > 0);
        Check.due("still answers", x.count(8), HostPacker.BAD);
        Check.due("still answers", busy.count(-1), HostPacker.BAD);
        Check.close();
    }
}
