import java.util.Random;

/** What the document says must always be so: nothing is lost, and lawful REACHES let no peak grow. */
public final class LawsTest {
    private static final int RIVERS = 3000;
    private static final long PLUS = ReachFlows.PLUS;

    public static void main(String[] args) {
        Random random = new Random(11);
        int lawful = 0;
        for (int i = 0; i < RIVERS; i++) {
            ReachFlows flows = river(random);
            for (int r = 0; r < flows.told(2); r++) {
                nothingIsLost(flows, r);
                weightsAreOne(flows, r);
                if (flows.told(4) == flows.told(2)) {
                    noPeakGrows(flows, r);
                    lawful++;
                }
            }
        }
        Checks.holds("lawful rivers were met often", lawful > 500);
        Checks.end();
    }

    private static ReachFlows river(Random random) {
        ReachFlows flows = new ReachFlows();
        flows.times(2 + random.nextInt(23));
        flows.step(1 + random.nextInt(9));
        int reaches = 1 + random.nextInt(6);
        boolean mild = random.nextBoolean();
        for (int r = 0; r < reaches; r++) {
            int k = mild ? 5 + random.nextInt(3) : random.nextInt(21);
            int x = mild ? random.nextInt(3) : random.nextInt(11);
            flows.reach(random.nextInt(r + 1) - 1, k, x, 1 + random.nextInt(2));
        }
        for (int i = 0; i < 40; i++) {
            int v = random.nextBoolean() ? random.nextInt(10000) : random.nextInt(20);
            flows.side(random.nextInt(flows.told(2)), random.nextInt(flows.told(0)), v);
        }
        return flows;
    }

    private static void nothingIsLost(ReachFlows flows, int r) {
        int last = flows.told(0) - 1;
        long grown = flows.flow(r, last, 4) - flows.flow(r, 0, 4);
        Checks.due("what STORED grows", grown, 10 * (flows.sum(r, 3) - flows.sum(r, 4)));
    }

    private static void weightsAreOne(ReachFlows flows, int r) {
        int abc = flows.weight(r, 0) - 1000 + flows.weight(r, 1) + flows.weight(r, 2) - 1000;
        Checks.due("A, B and C together", abc, flows.weight(r, 3));
    }

    private static void noPeakGrows(ReachFlows flows, int r) {
        Checks.holds("no peak grows", flows.sum(r, 1) <= flows.sum(r, 0));
        Checks.holds("nothing falls below nothing", flows.sum(r, 2) >= PLUS);
    }
}
