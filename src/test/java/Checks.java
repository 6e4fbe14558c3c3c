/** Counts answers that are due and those that are not, and ends a test by what it counted. */
final class Checks {
    private static int right = 0;
    private static int wrong = 0;

    private Checks() {
    }

    static void due(String what, long got, long want) {
        if (got == want) {
            right++;
            return;
        }
        wrong++;
        if (wrong <= 50) {
            System.out.println(what + " answered " + got + ", due is " + want);
        }
    }

    static void dueRow(String what, long[] got, long... want) {
        due(what + ", how many", got.length, want.length);
        for (int i = 0; i < Math.min(got.length, want.length); i++) {
            due(what + " at " + i, got[i], want[i]);
        }
    }

    static void holds(String what, boolean so) {
        due(what, so ? 1 : 0, 1);
    }

    static boolean anyWrong() {
        return wrong > 0;
    }

    static void end() {
        System.out.println(right + " answers as due, " + wrong + " not");
        if (wrong > 0 || right == 0) {
            System.exit(1);
        }
    }

    /** Feeds a text and tells the river by it. */
    static int tell(ReachFlows flows, String text) {
        for (int i = 0; i < text.length(); i++) {
            flows.feed(text.charAt(i));
        }
        return flows.river();
    }

    static ReachFlows told(String text) {
        ReachFlows flows = new ReachFlows();
        holds("'" + text + "' has no fault", tell(flows, text) >= 0);
        return flows;
    }

    /** IN (2), OUT (3) or STORED (4) at all TIMES without PLUS; SIDE (0) or SEEN (1) as they are. */
    static long[] row(ReachFlows flows, int r, int what) {
        long[] row = new long[flows.told(0)];
        for (int t = 0; t < row.length; t++) {
            row[t] = flows.flow(r, t, what) - (what >= 2 ? ReachFlows.PLUS : 0);
        }
        return row;
    }
}
