/** The bounds of the Terms and of their section 1: numbers, TIMES, REACHES, WEIGHTS, what comes in, goes out, is stored. */
final class RiverBounds {
    private static final int NONE = ReachFlows.NONE, UNKNOWN = ReachFlows.UNKNOWN, OUTSIDE = ReachFlows.OUTSIDE;
    private static final int FULL = ReachFlows.FULL;
    private static final long PLUS = ReachFlows.PLUS;

    private RiverBounds() {
    }

    static void run() {
        calls512();
        fromNought();
        constants();
        times();
        steps();
        reaches();
        below();
        k();
        x();
        parts();
        sideAndSeen();
        numbered();
        weights();
        lawful();
        in();
        inOfParts();
        outAtFirst();
        outAndRest();
        outOfTheLast();
        storedOfPart();
        storedOfReach();
    }

    private static void says(String words) {
        Document.says(Document.TERMS, words);
    }

    private static void calls512() {
        Document.says(Document.WHAT_IT_IS, "An object is used for at most 512 calls after it has been made");
        ReachFlows flows = new ReachFlows();
        flows.reach(NONE, 0, 0, 1);
        for (int i = 2; i < 512; i++) {
            Checks.due("call " + i, flows.side(0, i % 12, i), i < 14 ? 0 : i - 12);
        }
        Checks.due("call 512", flows.told(8), 16);
    }

    private static void fromNought() {
        says("What has a number has it from 0 on.");
        ReachFlows flows = new ReachFlows();
        Checks.due("the first REACH", flows.reach(NONE, 0, 0, 1), 0);
        Checks.due("the second REACH", flows.reach(NONE, 0, 0, 1), 1);
        flows.side(0, 0, 5);
        Checks.due("OUT at the first TIME", flows.flow(0, 0, 3), PLUS + 5);
        Checks.due("the TIME of the PEAK", flows.reachAt(0, 6), 0);
        flows.write(0, 0, 4);
        Checks.due("the first entry", flows.told(7), 0);
        Checks.due("the first IMAGE", flows.keep(0), 1);
        Checks.tell(flows, "x");
        Checks.due("the first letter", flows.fault(), 0);
    }

    private static void constants() {
        says("NONE is -1. PLUS is 4000000000000000000.");
        Checks.due("NONE", NONE, -1);
        Checks.due("PLUS", PLUS, 4000000000000000000L);
        ReachFlows flows = Checks.told("r-0 0 1;");
        Checks.due("NONE, answered", flows.reachAt(0, 0), -1);
        Checks.due("nothing and PLUS, answered", flows.flow(0, 0, 3), 4000000000000000000L);
    }

    private static void times() {
        says("TIMES 0 to T less 1 (T 2 .. 24; 12 at first)");
        ReachFlows flows = new ReachFlows();
        Checks.due("T at first", flows.told(0), 12);
        flows.reach(NONE, 0, 0, 1);
        lastTime(flows, 11);
        flows.times(2);
        lastTime(flows, 1);
        flows.times(24);
        lastTime(flows, 23);
        Checks.due("T too small", flows.times(1), OUTSIDE);
        Checks.due("T too large", flows.times(25), OUTSIDE);
        lastTime(flows, 23);
    }

    private static void lastTime(ReachFlows flows, int last) {
        Checks.due("side at TIME " + last, flows.side(0, last, last), 0);
        Checks.due("SIDE at TIME " + last, flows.flow(0, last, 0), last);
        Checks.due("side at TIME " + last + " and 1", flows.side(0, last + 1, 1), UNKNOWN);
        Checks.due("SIDE at TIME " + last + " and 1", flows.flow(0, last + 1, 0), UNKNOWN);
        Checks.due("SIDE at TIME -1", flows.flow(0, -1, 0), UNKNOWN);
        flows.side(0, last, 0);
    }

    private static void steps() {
        says("D (1 .. 9; 1 at first) between two of them.");
        ReachFlows flows = new ReachFlows();
        Checks.due("D at first", flows.told(1), 1);
        Checks.due("the greatest D", flows.step(9), 1);
        Checks.due("D too large", flows.step(10), OUTSIDE);
        Checks.due("the least D", flows.step(1), 9);
        Checks.due("D too small", flows.step(0), OUTSIDE);
        Checks.due("D", flows.told(1), 1);
    }

    private static void reaches() {
        says("REACHES (6 at most, none at first)");
        ReachFlows flows = new ReachFlows();
        Checks.due("none at first", flows.told(2), 0);
        Checks.due("none has the number 0", flows.reachAt(0, 0), UNKNOWN);
        for (int r = 0; r < 6; r++) {
            Checks.due("REACH " + r, flows.reach(NONE, 0, 0, 1), r);
            Checks.due("REACH " + r + " is there", flows.reachAt(r, 7), 1);
            Checks.due("the next is not", flows.reachAt(r + 1, 7), UNKNOWN);
        }
        Checks.due("a seventh", flows.reach(NONE, 0, 0, 1), FULL);
        Checks.due("six", flows.told(2), 6);
    }

    private static void below() {
        says("each has a BELOW, a REACH of lesser number, or NONE (the sea)");
        ReachFlows flows = new ReachFlows();
        Checks.due("below 0, the first", flows.reach(0, 0, 0, 1), UNKNOWN);
        Checks.due("below NONE, the first", flows.reach(NONE, 0, 0, 1), 0);
        Checks.due("below itself", flows.reach(1, 0, 0, 1), UNKNOWN);
        Checks.due("below the one ahead", flows.reach(0, 0, 0, 1), 1);
        Checks.due("below a later one", flows.reach(3, 0, 0, 1), UNKNOWN);
        Checks.due("below less than NONE", flows.reach(-2, 0, 0, 1), UNKNOWN);
        Checks.due("below the first", flows.reach(0, 0, 0, 1), 2);
        Checks.due("NONE behind others", flows.reach(NONE, 0, 0, 1), 3);
        Checks.dueRow("BELOW", new long[] {flows.reachAt(0, 0), flows.reachAt(1, 0), flows.reachAt(2, 0), flows.reachAt(3, 0)},
            NONE, 0, 0, NONE);
    }

    private static void k() {
        says("K (0 .. 20)");
        ReachFlows flows = new ReachFlows();
        Checks.due("K too small", flows.reach(NONE, -1, 0, 1), OUTSIDE);
        Checks.due("K too large", flows.reach(NONE, 21, 0, 1), OUTSIDE);
        Checks.due("the least K", flows.reach(NONE, 0, 0, 1), 0);
        Checks.due("the greatest K", flows.reach(NONE, 20, 0, 1), 1);
        Checks.due("K of 0", flows.reachAt(0, 1), 0);
        Checks.due("K of 1", flows.reachAt(1, 1), 20);
        Checks.due("K changed, too small", flows.change(0, -1, 0), OUTSIDE);
        Checks.due("K changed, too large", flows.change(0, 21, 0), OUTSIDE);
        Checks.due("K changed to the greatest", flows.change(0, 20, 0), 1);
        Checks.due("K changed to the least", flows.change(1, 0, 0), 0);
        Checks.due("K of 0", flows.reachAt(0, 1), 20);
        Checks.due("K of 1", flows.reachAt(1, 1), 0);
    }

    private static void x() {
        says("X (0 .. 10)");
        ReachFlows flows = new ReachFlows();
        Checks.due("X too small", flows.reach(NONE, 1, -1, 1), OUTSIDE);
        Checks.due("X too large", flows.reach(NONE, 1, 11, 1), OUTSIDE);
        Checks.due("the least X", flows.reach(NONE, 1, 0, 1), 0);
        Checks.due("the greatest X", flows.reach(NONE, 1, 10, 1), 1);
        Checks.due("X of 0", flows.reachAt(0, 2), 0);
        Checks.due("X of 1", flows.reachAt(1, 2), 10);
        Checks.due("X changed, too small", flows.change(0, 1, -1), OUTSIDE);
        Checks.due("X changed, too large", flows.change(0, 1, 11), OUTSIDE);
        Checks.due("X changed to the greatest", flows.change(0, 1, 10), 1);
        Checks.due("X changed to the least", flows.change(1, 1, 0), 1);
        Checks.due("X of 0", flows.reachAt(0, 2), 10);
        Checks.due("X of 1", flows.reachAt(1, 2), 0);
    }

    private static void parts() {
        says("PARTS (1 .. 4; of all REACHES together 8 at most)");
        ReachFlows flows = new ReachFlows();
        Checks.due("PARTS too few", flows.reach(NONE, 0, 0, 0), OUTSIDE);
        Checks.due("PARTS too many", flows.reach(NONE, 0, 0, 5), OUTSIDE);
        Checks.due("the fewest PARTS", flows.reach(NONE, 0, 0, 1), 0);
        Checks.due("the most PARTS", flows.reach(NONE, 0, 0, 4), 1);
        Checks.due("9 together", flows.reach(NONE, 0, 0, 4), FULL);
        Checks.due("8 together", flows.reach(NONE, 0, 0, 3), 2);
        Checks.due("of all", flows.told(3), 8);
        Checks.due("9 together, by one", flows.reach(NONE, 0, 0, 1), FULL);
        flows.take();
        Checks.due("there is room again", flows.reach(NONE, 0, 0, 2), 2);
        Checks.due("of all", flows.told(3), 7);
    }

    private static void sideAndSeen() {
        says("and at each TIME a SIDE and a SEEN (0 .. 9999; 0 at first)");
        ReachFlows flows = new ReachFlows();
        flows.times(24);
        flows.reach(NONE, 0, 0, 1);
        Checks.dueRow("SIDE at first", Checks.row(flows, 0, 0), new long[24]);
        Checks.dueRow("SEEN at first", Checks.row(flows, 0, 1), new long[24]);
        for (int t : new int[] {0, 23}) {
            Checks.due("SIDE too small", flows.side(0, t, -1), OUTSIDE);
            Checks.due("SIDE too large", flows.side(0, t, 10000), OUTSIDE);
            Checks.due("the greatest SIDE", flows.side(0, t, 9999), 0);
            Checks.due("the least SIDE", flows.side(0, t, 0), 9999);
            Checks.due("SEEN too small", flows.seen(0, t, -1), OUTSIDE);
            Checks.due("SEEN too large", flows.seen(0, t, 10000), OUTSIDE);
            Checks.due("the greatest SEEN", flows.seen(0, t, 9999), 0);
            Checks.due("the least SEEN", flows.seen(0, t, 0), 9999);
        }
    }

    private static void numbered() {
        says("numbered as they came.");
        ReachFlows flows = new ReachFlows();
        Checks.due("the first", flows.reach(NONE, 1, 0, 1), 0);
        Checks.due("the second", flows.reach(NONE, 2, 0, 1), 1);
        flows.take();
        Checks.due("the second anew", flows.reach(NONE, 3, 0, 1), 1);
        Checks.due("the third", flows.reach(NONE, 4, 0, 1), 2);
        Checks.dueRow("K as they came", new long[] {flows.reachAt(0, 1), flows.reachAt(1, 1), flows.reachAt(2, 1)}, 1, 3, 4);
    }

    private static void weights() {
        says("WEIGHTS: A is 10 D less K X, B is 10 D and K X, C is 20 K less K X less 10 D, M is 20 K less K X, and 10 D. "
            + "(A, B and C together are M.)");
        weighs(1, 0, 0, 10, 10, -10, 10);
        weighs(1, 0, 10, 10, 10, -10, 10);
        weighs(1, 20, 0, 10, 10, 390, 410);
        weighs(1, 20, 10, -190, 210, 190, 210);
        weighs(9, 0, 0, 90, 90, -90, 90);
        weighs(9, 20, 0, 90, 90, 310, 490);
        weighs(9, 20, 10, -110, 290, 110, 290);
        for (int d = 1; d <= 9; d++) {
            for (int k = 0; k <= 20; k++) {
                for (int x = 0; x <= 10; x++) {
                    long[] abcm = abcm(d, k, x);
                    Checks.due("A, B and C together", abcm[0] + abcm[1] + abcm[2], abcm[3]);
                    Checks.holds("M is above 0", abcm[3] >= 10);
                }
            }
        }
    }

    private static long[] abcm(int d, int k, int x) {
        ReachFlows flows = new ReachFlows();
        flows.step(d);
        flows.reach(NONE, k, x, 1);
        return new long[] {flows.weight(0, 0) - 1000, flows.weight(0, 1), flows.weight(0, 2) - 1000, flows.weight(0, 3)};
    }

    private static void weighs(int d, int k, int x, long... want) {
        Checks.dueRow("A, B, C, M by D " + d + ", K " + k + ", X " + x, abcm(d, k, x), want);
    }

    private static void lawful() {
        says("LAWFUL, a REACH: neither A nor C is below 0.");
        isLawful(3, 3, 10, 1);
        isLawful(3, 4, 8, 0);
        isLawful(1, 11, 1, 0);
        isLawful(1, 10, 1, 1);
        isLawful(1, 20, 0, 1);
        isLawful(2, 1, 0, 1);
        isLawful(2, 1, 1, 0);
        isLawful(3, 1, 0, 0);
        isLawful(1, 0, 0, 0);
        isLawful(1, 1, 10, 1);
        isLawful(9, 9, 10, 1);
        isLawful(9, 10, 10, 0);
        isLawful(9, 5, 2, 1);
        isLawful(9, 5, 3, 0);
        for (int d = 1; d <= 9; d++) {
            for (int k = 0; k <= 20; k++) {
                for (int x = 0; x <= 10; x++) {
                    long[] abcm = abcm(d, k, x);
                    isLawful(d, k, x, abcm[0] >= 0 && abcm[2] >= 0 ? 1 : 0);
                }
            }
        }
    }

    private static void isLawful(int d, int k, int x, int want) {
        ReachFlows flows = new ReachFlows();
        flows.step(d);
        flows.reach(NONE, k, x, 1);
        String name = "LAWFUL by D " + d + ", K " + k + ", X " + x;
        Checks.due(name, flows.reachAt(0, 4), want);
        Checks.due(name + ", told", flows.told(4), want);
        Checks.due(name + ", changed", flows.change(0, k, x), want);
    }

    private static void in() {
        says("IN of a REACH at a TIME: its SIDE, and OUT of all REACHES whose BELOW it is, then.");
        ReachFlows alone = Checks.told("t2;r-0 0 1;r-0 0 1;s0 7 0;s1 50 60;");
        Checks.dueRow("IN of one that none flows in", Checks.row(alone, 0, 2), 7, 0);
        ReachFlows five = Checks.told("t2;r-0 0 1;r0 0 0 1;r0 0 0 1;r0 0 0 1;r0 0 0 1;r0 0 0 1;"
            + "s0 1;s1 2 20;s2 4 40;s3 8 80;s4 16 160;s5 9999 9999;");
        Checks.dueRow("IN of one that five flow in", Checks.row(five, 0, 2), 10030, 10299);
        ReachFlows line = Checks.told("t2;r-0 0 1;r0 0 0 1;r1 0 0 1;r2 0 0 1;r3 0 0 1;r4 0 0 1;s5 3 4;");
        Checks.dueRow("IN of one at the end of five", Checks.row(line, 0, 2), 3, 4);
        line.side(1, 0, 100);
        Checks.dueRow("IN of one further down", Checks.row(line, 0, 2), 103, 4);
        Checks.dueRow("IN of one further up", Checks.row(line, 2, 2), 3, 4);
    }

    private static void inOfParts() {
        says("IN of its first PART is that; of each further PART OUT of the one ahead of it.");
        // A, B, C are 10, M is 30. The PARTS: 27, 18, 6, 2; 27, 24, 16, 8; 27, 26, 22, 15; 27, 26 (20 left over), 25 (10).
        Checks.dueRow("OUT of one PART", outOf(1), 27, 18, 6, 2);
        Checks.dueRow("OUT of two PARTS", outOf(2), 27, 24, 16, 8);
        Checks.dueRow("OUT of three PARTS", outOf(3), 27, 26, 22, 15);
        Checks.dueRow("OUT of four PARTS", outOf(4), 27, 26, 25, 21);
    }

    private static long[] outOf(int parts) {
        return Checks.row(Checks.told("t4;r-1 0 " + parts + ";s0 27;"), 0, 3);
    }

    private static void outAtFirst() {
        says("OUT of a PART at TIME 0 is its IN then, and its REST 0;");
        for (int parts = 1; parts <= 4; parts++) {
            ReachFlows flows = Checks.told("t2;r-20 9 " + parts + ";s0 9999;");
            Checks.due("OUT at TIME 0", flows.flow(0, 0, 3), PLUS + 9999);
            Checks.due("STORED at TIME 0, without a REST", flows.flow(0, 0, 4), PLUS + parts * (180 + 220) * 9999L);
        }
        Checks.due("OUT of nothing at TIME 0", Checks.told("r-20 10 4;").flow(0, 0, 3), PLUS);
    }

    private static void outAndRest() {
        says("at each further TIME: A times its IN, B times its IN at the TIME ahead, C times its OUT at the TIME ahead, "
            + "and its REST of the TIME ahead, together: OUT is that / M, cut to the lesser whole number (also below 0), "
            + "REST is what is left over (0 .. M less 1).");
        // A 9, B 11, C 9, M 29: 9 times 16 is 4 times 29 and 28, the greatest REST; then 176 and 36 and 28.
        ReachFlows flows = Checks.told("t3;r-1 1 1;s0 0 16;");
        Checks.dueRow("OUT, cut", Checks.row(flows, 0, 3), 0, 4, 8);
        Checks.dueRow("STORED of the greatest REST", Checks.row(flows, 0, 4), 0, 16 + 76 + 28, 152 + 8);
        // A -1, B 21, C 199, M 219: -1 is -1 times 219 and 218, the greatest REST; then 21 less 199 and 218.
        flows = Checks.told("t3;r-11 1 1;s0 0 1;");
        Checks.dueRow("OUT, cut below 0", Checks.row(flows, 0, 3), 0, -1, 0);
        Checks.dueRow("STORED of the greatest REST below 0", Checks.row(flows, 0, 4), 0, 11 - 209 + 218, 40);
        // -219 is -1 times 219: nothing is cut; -220 is -2 times 219 and 218.
        flows = Checks.told("t2;r-11 1 1;s0 0 219;");
        Checks.due("OUT below 0 without a REST", flows.flow(0, 1, 3), PLUS - 1);
        Checks.due("STORED without a REST", flows.flow(0, 1, 4), PLUS + 11 * 219 - 209);
        flows.side(0, 1, 220);
        Checks.due("OUT below 0 by one more", flows.flow(0, 1, 3), PLUS - 2);
        Checks.due("STORED by one more", flows.flow(0, 1, 4), PLUS + 11 * 220 - 418 + 218);
        // K 0: A and B are 10, C is -10, M is 10, so that OUT is IN at each TIME.
        flows = Checks.told("t4;r-0 10 4;s0 9999 0 9999 0;");
        Checks.dueRow("OUT by K 0", Checks.row(flows, 0, 3), 9999, 0, 9999, 0);
    }

    private static void outOfTheLast() {
        says("OUT of a REACH: of its last PART.");
        // As above, of 4 PARTS; the REACH below lets all through.
        ReachFlows flows = Checks.told("t4;r-0 0 4;r0 1 0 4;s1 27;");
        Checks.dueRow("OUT of four PARTS", Checks.row(flows, 1, 3), 27, 26, 25, 21);
        Checks.dueRow("IN below", Checks.row(flows, 0, 2), 27, 26, 25, 21);
    }

    private static void storedOfPart() {
        says("STORED of a PART: K times X times its IN, K times (20 less X) times its OUT, and its REST, together.");
        // A -170, B 190, C 210, M 230: 190 and 210 times 9999 is 17389 times 230 and 130.
        ReachFlows flows = Checks.told("t2;r-20 9 1;s0 9999;");
        Checks.due("OUT", flows.flow(0, 1, 3), PLUS + 17389);
        Checks.due("STORED by IN 0", flows.flow(0, 1, 4), PLUS + 220 * 17389L + 130);
        Checks.due("STORED of nothing", Checks.told("r-20 10 1;").flow(0, 11, 4), PLUS);
        Checks.due("STORED by K 0", Checks.told("r-0 10 1;s0 9999;").flow(0, 0, 4), PLUS);
        Checks.due("STORED by X 0", Checks.told("r-20 0 1;s0 9999;").flow(0, 0, 4), PLUS + 400 * 9999L);
        Checks.due("STORED by X 10", Checks.told("r-20 10 1;s0 9999;").flow(0, 0, 4), PLUS + 400 * 9999L);
        // A -190, M 210: 21 becomes -19 without a REST.
        flows = Checks.told("t2;r-20 10 1;s0 0 21;");
        Checks.due("STORED of IN above 0, OUT below it", flows.flow(0, 1, 4), PLUS + 200 * 21 - 200 * 19);
    }

    private static void storedOfReach() {
        says("STORED of a REACH: of all its PARTS together.");
        // As the PARTS above: 20 times OUT of each, and REST: at TIME 1 the fourth has 20, at TIME 2 it has 10.
        ReachFlows flows = Checks.told("t3;r-1 0 4;s0 27;");
        Checks.dueRow("STORED of four PARTS", Checks.row(flows, 0, 4),
            20 * 4 * 27, 20 * (18 + 24 + 26 + 26) + 20, 20 * (6 + 16 + 22 + 25) + 10);
    }
}
