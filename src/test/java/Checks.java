/** Counts answers that are due and those that are not, and ends a test by what it counted. */
final class Checks {
    private static int right = 0;
    private static int wrong = 0;

    private Checks() {
    }

    static void due(String what, long got, long want) {
        if (got == want) {
            right++;
            return;
        }
        wrong++;
        if (wrong <= 50) {
            System.out.println(what + " answered " + got + ", due is " + want);
        }
    }

    static void dueRow(String what, long[] got, long... want) {
        due(what + ", how many", got.length, want.length);
        for (int i = 0; i < Math.min(got.length, want.length); i++) {
            due(what + " at " + i, got[i], want[i]);
        }
    }

    static void holds(String what, boolean so) {
        due(what, so ? 1 : 0, 1);
    }

    static int answers() {
        return right + wrong;
    }

    static boolean anyWrong() {
        return wrong > 0;
    }

    static void end() {
        System.out.println(right + " answers as due, " + wrong + " not");
        if (wrong > 0 || right == 0) {
            System.exit(1);
        }
    }

    /** Feeds a text and tells the river by it. */
    static int tell(ReachFlows flows, String text) {
        for (int i = 0; i < text.length(); i++) {
            flows.feed(text.charAt(i));
        }
        return flows.river();
    }

    static ReachFlows told(String text) {
        ReachFlows flows = new ReachFlows();
        holds("'" + text + "' has no fault", tell(flows, text) >= 0);
        return flows;
    }

    /** The text is no river: the number of its first FAULT, and where it is. */
    static void faulty(String text, int number, int place) {
        ReachFlows flows = new ReachFlows();
        due("river() of '" + text + "'", tell(flows, text), -10 - number);
        due("fault() of '" + text + "'", flows.fault(), place);
        due("deeds behind '" + text + "'", flows.told(8), 0);
    }

    /** The text is a river of so many REACHES. */
    static ReachFlows sound(String text, int reaches) {
        ReachFlows flows = new ReachFlows();
        due("river() of '" + text + "'", tell(flows, text), reaches);
        due("fault() of '" + text + "'", flows.fault(), ReachFlows.NONE);
        return flows;
    }

    /** All of section 1 that can be asked for; it costs five calls for each REACH and TIME. */
    static String picture(ReachFlows flows) {
        StringBuilder all = new StringBuilder();
        for (int what = 0; what < 5; what++) {
            all.append(flows.told(what)).append(' ');
        }
        for (int r = 0; r < flows.told(2); r++) {
            for (int what = 0; what < 5; what++) {
                all.append(java.util.Arrays.toString(row(flows, r, what))).append(flows.reachAt(r, what));
            }
        }
        return all.toString();
    }

    /** IN (2), OUT (3) or STORED (4) at all TIMES without PLUS; SIDE (0) or SEEN (1) as they are. */
    static long[] row(ReachFlows flows, int r, int what) {
        long[] row = new long[flows.told(0)];
        for (int t = 0; t < row.length; t++) {
            row[t] = flows.flow(r, t, what) - (what >= 2 ? ReachFlows.PLUS : 0);
        }
        return row;
    }
}
