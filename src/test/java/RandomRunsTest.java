import java.util.Random;

/**
 * Runs of calls drawn from fixed seeds, each call asked of HostPacker and of the Oracle. No object
 * is asked more often than the document says that one is used.
 */
public final class RandomRunsTest {
    private static final int RUNS = 20000;
    private static final int CALLS = 512;
    private static final int[] WRONG = {-2, -1, 24, 25, 10, 8, 1001, 256, 100000,
        Integer.MAX_VALUE, Integer.MIN_VALUE, -1000000};

    private final Random random;
    private final HostPacker packer = new HostPacker();
    private final Oracle oracle = new Oracle();
    private final int seed;
    private final int mostHosts;
    private final int halls;
    private final int groups;
    private final int amount;
    private final int taintBits;
    private final boolean searches;
    private int calls;

    private RandomRunsTest(int seed) {
        this.seed = seed;
        random = new Random(seed);
        mostHosts = 2 + random.nextInt(9);
        halls = 1 + random.nextInt(5);
        groups = 1 + random.nextInt(8);
        amount = 2 + random.nextInt(12);
        taintBits = random.nextInt(4);
        searches = seed % 4 == 0;
    }

    private int below(int bound) {
        return random.nextInt(bound);
    }

    /** Mostly a number of the document's range, now and then one that is not. */
    private int arg(int bound) {
        return below(40) == 0 ? WRONG[below(WRONG.length)] : below(bound);
    }

    private int someJob() {
        int jobs = oracle.count(1);
        return below(40) == 0 ? jobs : arg(Math.max(1, jobs));
    }

    private int someHost() {
        int hosts = oracle.count(0);
        return below(40) == 0 ? hosts : arg(Math.max(1, hosts));
    }

    /** What is answered after the last call that is promised is free. */
    private void due(String call, int got, int want) {
        calls++;
        if (calls <= CALLS) {
            Check.due("seed " + seed + ", call " + calls + ": " + call, got, want);
        }
    }

    private void addHost() {
        int a = arg(amount * 2);
        int b = arg(amount * 2);
        int c = arg(amount * 2);
        int hall = below(30) == 0 ? arg(6) : below(halls);
        int taints = below(3) == 0 ? arg(1 << taintBits) : 0;
        due("host", packer.host(a, b, c, hall, taints), oracle.host(a, b, c, hall, taints));
    }

    private void addJob() {
        int kind = arg(6);
        int a = arg(amount);
        int b = below(3) == 0 ? arg(amount) : 0;
        int c = below(3) == 0 ? arg(amount) : 0;
        int priority = below(3) == 0 ? arg(10) : below(4);
        int group = below(30) == 0 ? arg(9) : below(groups);
        int tolerated = below(2) == 0 ? arg(256) : 0;
        int other = below(30) == 0 ? arg(9) : below(groups);
        due("job", packer.job(kind, a, b, c, priority, group, tolerated, other),
                oracle.job(kind, a, b, c, priority, group, tolerated, other));
    }

    private void change() {
        int job = someJob();
        int host = someHost();
        switch (below(20)) {
            case 0: {
                int which = arg(3);
                int w = below(5) == 0 ? below(230) - 115 : below(21) - 10;
                due("weight", packer.weight(which, w), oracle.weight(which, w));
                break;
            }
            case 1:
            case 2:
                due("end " + job, packer.end(job), oracle.end(job));
                break;
            case 3:
                due("fall " + host, packer.fall(host), oracle.fall(host));
                break;
            case 4:
            case 5:
                due("rise " + host, packer.rise(host), oracle.rise(host));
                break;
            case 6:
            case 7:
            case 8:
                due("move " + job + " " + host, packer.move(job, host), oracle.move(job, host));
                break;
            case 9:
            case 10: {
                int to = below(3) == 0 ? -1 : host;
                due("target " + job + " " + to, packer.target(job, to), oracle.target(job, to));
                break;
            }
            case 11:
            case 12: {
                int group = below(30) == 0 ? arg(9) : below(groups);
                due("gang " + group, packer.gang(group), oracle.gang(group));
                break;
            }
            case 13:
            case 14:
                undoSome();
                break;
            default:
                due("place " + job, packer.place(job), oracle.place(job));
                due("gone", packer.gone(), oracle.gone());
        }
    }

    private void undoSome() {
        int times = below(20) == 0 ? 40 : 1 + below(4);
        for (int i = 0; i < times; i++) {
            due("undo", packer.undo(), oracle.undo());
        }
        due("gone after undo", packer.gone(), oracle.gone());
    }

    private void look() {
        int job = someJob();
        int host = someHost();
        due("why " + job + " " + host, packer.why(job, host), oracle.why(job, host));
        due("points " + job + " " + host, packer.points(job, host), oracle.points(job, host));
        int i = below(5) - 1;
        due("left", packer.left(host, i), oracle.left(host, i));
        int what = below(8) - 1;
        due("told " + job + " " + what, packer.told(job, what), oracle.told(job, what));
        for (int part = -1; part <= 4; part++) {
            due("would " + job + " " + part, packer.would(job, part), oracle.would(job, part));
        }
    }

    private void search() {
        due("safe", packer.safe(), oracle.safe());
        due("worst", packer.worst(), oracle.worst());
        due("fewest", packer.fewest(), oracle.fewest());
        due("plan", packer.plan(), oracle.plan());
        for (int i = -1; i <= 8; i++) {
            for (int what = -1; what <= 2; what++) {
                due("step " + i + " " + what, packer.step(i, what), oracle.step(i, what));
            }
        }
    }

    /** Each count, each job with its reason and points on one host, one amount of each host. */
    private void compareMuch() {
        for (int what = -1; what <= 8; what++) {
            due("count " + what, packer.count(what), oracle.count(what));
        }
        int some = below(10);
        for (int job = 0; job < oracle.count(1); job++) {
            due("state of " + job, packer.told(job, 0), oracle.told(job, 0));
            due("host of " + job, packer.told(job, 1), oracle.told(job, 1));
            due("turn of " + job, packer.told(job, 2), oracle.told(job, 2));
            int host = (job + some) % 10;
            due("why " + job + " " + host, packer.why(job, host), oracle.why(job, host));
            due("points " + job + " " + host, packer.points(job, host), oracle.points(job, host));
        }
        for (int host = 0; host < oracle.count(0); host++) {
            int i = (host + some) % 3;
            due("left " + host + " " + i, packer.left(host, i), oracle.left(host, i));
        }
    }

    private void run() {
        int next = 60 + below(CALLS);
        while (calls < CALLS && Check.wrong() == 0) {
            int hosts = oracle.count(0);
            int dice = below(100);
            if (hosts < mostHosts && dice < 12 || dice == 0) {
                addHost();
            } else if (dice < 26) {
                addJob();
            } else if (dice < 92) {
                change();
            } else if (dice < 97 || !searches && dice < 99) {
                look();
            } else {
                search();
            }
            if (calls > next) {
                compareMuch();
                next = calls + 60 + below(CALLS);
            }
        }
    }

    public static void main(String[] args) {
        int runs = args.length > 0 ? Integer.parseInt(args[0]) : RUNS;
        for (int seed = 0; seed < runs && Check.wrong() == 0; seed++) {
            new RandomRunsTest(seed).run();
        }
        Check.close();
    }
}
