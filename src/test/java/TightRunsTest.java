import java.util.Random;

/**
 * Small, nearly full worlds from fixed seeds, where searches have to go far: HostPacker's
 * plans, safety, fewest hosts and least changes against the Oracle's.
 */
public final class TightRunsTest {
    private static final int RUNS = 6000;
    private static int[] planned = new int[13];
    private static int[] fewest = new int[15];
    private static int[] safe = new int[6];
    private static int[] would = new int[7];

    private final Random random;
    private final int seed;
    private final HostPacker packer = new HostPacker();
    private final Oracle oracle = new Oracle();

    private TightRunsTest(int seed) {
        this.seed = seed;
        random = new Random(seed * 7919L);
    }

    private int below(int bound) {
        return random.nextInt(bound);
    }

    private int due(String call, int got, int want) {
        Check.due("tight " + seed + ": " + call, got, want);
        return want;
    }

    private void build() {
        int hosts = 2 + below(5);
        int room = 3 + below(4);
        int halls = 1 + below(3);
        for (int i = 0; i < hosts; i++) {
            int a = room + below(3);
            int hall = below(halls);
            due("host", packer.host(a, 9, 9, hall, 0), oracle.host(a, 9, 9, hall, 0));
        }
        int jobs = 2 + below(5);
        boolean mixed = below(2) == 0;
        for (int i = 0; i < jobs; i++) {
            int kind = mixed ? below(6) : 0;
            int a = 1 + below(room);
            int priority = below(3);
            int group = below(3);
            int other = below(3);
            due("job", packer.job(kind, a, 1, 0, priority, group, 0, other),
                    oracle.job(kind, a, 1, 0, priority, group, 0, other));
        }
        for (int round = 0; round < 2; round++) {
            for (int i = 0; i < jobs; i++) {
                due("place", packer.place(i), oracle.place(i));
                due("gone", packer.gone(), oracle.gone());
            }
            for (int group = 0; group < 3; group++) {
                due("gang", packer.gang(group), oracle.gang(group));
            }
        }
        aim(jobs, hosts);
    }

    private void aim(int jobs, int hosts) {
        for (int i = 0; i < jobs; i++) {
            boolean stands = oracle.told(i, 0) == 1 && oracle.told(i, 3) != 3;
            if (below(20) < (stands ? 15 : 1)) {
                int to = below(hosts);
                due("target", packer.target(i, to), oracle.target(i, to));
            }
        }
    }

    private void search() {
        planned[4 + due("plan", packer.plan(), oracle.plan())]++;
        for (int i = 0; i <= 8; i++) {
            due("step " + i, packer.step(i, 0), oracle.step(i, 0));
            due("step " + i, packer.step(i, 1), oracle.step(i, 1));
        }
        safe[4 + due("safe", packer.safe(), oracle.safe())]++;
        due("worst", packer.worst(), oracle.worst());
        fewest[4 + due("fewest", packer.fewest(), oracle.fewest())]++;
        for (int i = 0; i < oracle.count(1); i++) {
            for (int what = 0; what < 4; what++) {
                int answer = due("would", packer.would(i, what), oracle.would(i, what));
                if (what == 0) {
                    would[3 + answer]++;
                }
            }
        }
        for (int host = 0; host < oracle.count(0); host++) {
            for (int i = 0; i < 3; i++) {
                due("left", packer.left(host, i), oracle.left(host, i));
            }
        }
    }

    private static void tell(String what, int[] answers, int first) {
        StringBuilder line = new StringBuilder(what);
        for (int i = 0; i < answers.length; i++) {
            if (answers[i] > 0) {
                line.append("  ").append(i + first).append(": ").append(answers[i]);
            }
        }
        System.out.println(line);
    }

    public static void main(String[] args) {
        int runs = args.length > 0 ? Integer.parseInt(args[0]) : RUNS;
        for (int seed = 0; seed < runs && Check.wrong() == 0; seed++) {
            TightRunsTest run = new TightRunsTest(seed);
            run.build();
            run.search();
        }
        tell("plan  ", planned, -4);
        tell("fewest", fewest, -4);
        tell("safe  ", safe, -4);
        tell("would ", would, -3);
        Check.close();
    }
}
