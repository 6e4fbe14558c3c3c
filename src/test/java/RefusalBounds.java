/** What is refused, by which refusal, and that nothing changes by it: each call, each bound of each of its numbers. */
final class RefusalBounds {
    private static final int NONE = ReachFlows.NONE, UNKNOWN = ReachFlows.UNKNOWN, OUTSIDE = ReachFlows.OUTSIDE;
    private static final int NOT = ReachFlows.NOT, FULL = ReachFlows.FULL;
    private static final int LOWEST = Integer.MIN_VALUE, HIGHEST = Integer.MAX_VALUE;

    private static final String FULL_ONE = all(full());

    private interface Call {
        long on(ReachFlows flows);
    }

    private RefusalBounds() {
    }

    static void run() {
        Document.says(Document.TERMS, "UNKNOWN (a REACH, TIME, IMAGE that there is not)");
        unknownReaches();
        unknownTimes();
        unknownImages();
        Document.says(Document.TERMS, "OUTSIDE (another number out of its bounds)");
        outsideWhat();
        outsideOthers();
        Document.says(Document.TERMS, "NOT (not now, as told), FULL.");
        notNowAndFull();
        Document.says(Document.TERMS, "REFUSALS, of several the first in this order:");
        severalAtOnce();
        Document.says(Document.TERMS, "They are far below all that is counted: -1000000001 and on.");
        farBelow();
        Document.says(Document.TERMS, "What is refused changes nothing.");
        changesNothing();
    }

    /** Two REACHES of all 8 PARTS, T 5, a full text, a full book, three deeds, one IMAGE of two. */
    private static ReachFlows full() {
        ReachFlows flows = new ReachFlows();
        Checks.tell(flows, "  x");
        flows.times(5);
        flows.step(2);
        flows.reach(NONE, 1, 2, 4);
        flows.reach(0, 3, 4, 4);
        flows.side(1, 0, 700);
        flows.seed(77);
        flows.keep(0);
        flows.side(0, 0, 40);
        flows.seen(0, 4, 30);
        flows.change(0, 2, 1);
        for (int i = 0; i < 20; i++) {
            flows.write(0, 0, i < 3 ? 740 : i);
        }
        for (int i = 0; i < 200; i++) {
            flows.feed(i < 190 ? ' ' : 't');
        }
        return flows;
    }

    private static String all(ReachFlows flows) {
        StringBuilder all = new StringBuilder();
        for (int what = 0; what < 10; what++) {
            all.append(flows.told(what)).append(' ');
        }
        all.append(flows.fault());
        for (int r = 0; r < flows.told(2); r++) {
            for (int what = 0; what < 12; what++) {
                all.append(' ').append(flows.reachAt(r, what));
            }
            for (int t = 0; t < flows.told(0); t++) {
                for (int what = 0; what < 5; what++) {
                    all.append(' ').append(flows.flow(r, t, what));
                }
            }
        }
        return all.toString();
    }

    private static void refused(String name, int want, Call call) {
        ReachFlows flows = full();
        Checks.due(name, call.on(flows), want);
        Checks.holds(name + " changes nothing", all(flows).equals(FULL_ONE));
        Checks.due(name + " leaves the deeds", flows.undo(3), 2);
        Checks.due(name + " leaves SIDE ahead of them", flows.flow(0, 0, 0), 0);
        Checks.due(name + " leaves the other IMAGE unkept", flows.goBack(1), NOT);
        flows.seed(1);
        Checks.due(name + " leaves the IMAGE", flows.goBack(0), 1);
        Checks.due(name + " leaves the IMAGE's SEED", flows.told(9), 77);
    }

    private static void unknownReaches() {
        for (int r : new int[] {LOWEST, -2, -1, 2, 6, HIGHEST}) {
            refused("reachAt(" + r + ", 0)", UNKNOWN, flows -> flows.reachAt(r, 0));
            refused("weight(" + r + ", 0)", UNKNOWN, flows -> flows.weight(r, 0));
            refused("flow(" + r + ", 0, 0)", UNKNOWN, flows -> flows.flow(r, 0, 0));
            refused("sum(" + r + ", 0)", UNKNOWN, flows -> flows.sum(r, 0));
            refused("would(" + r + ", 0, 0, 0)", UNKNOWN, flows -> flows.would(r, 0, 0, 0));
            refused("would(0, " + r + ", 0, 0)", UNKNOWN, flows -> flows.would(0, r, 0, 0));
            refused("change(" + r + ", 0, 0)", UNKNOWN, flows -> flows.change(r, 0, 0));
            refused("side(" + r + ", 0, 0)", UNKNOWN, flows -> flows.side(r, 0, 0));
            refused("seen(" + r + ", 0, 0)", UNKNOWN, flows -> flows.seen(r, 0, 0));
            refused("show(" + r + ")", UNKNOWN, flows -> flows.show(r));
            refused("write(" + r + ", 0, 0)", UNKNOWN, flows -> flows.write(r, 0, 0));
            if (r != NONE) {
                refused("reach(" + r + ", 0, 0, 1)", UNKNOWN, flows -> flows.reach(r, 0, 0, 1));
            }
        }
    }

    private static void unknownTimes() {
        for (int t : new int[] {LOWEST, -1, 5, 12, 24, HIGHEST}) {
            refused("flow(0, " + t + ", 0)", UNKNOWN, flows -> flows.flow(0, t, 0));
            refused("side(0, " + t + ", 0)", UNKNOWN, flows -> flows.side(0, t, 0));
            refused("seen(0, " + t + ", 0)", UNKNOWN, flows -> flows.seen(0, t, 0));
            refused("write(0, " + t + ", 0)", UNKNOWN, flows -> flows.write(0, t, 0));
        }
    }

    private static void unknownImages() {
        for (int i : new int[] {LOWEST, -1, 2, HIGHEST}) {
            refused("keep(" + i + ")", UNKNOWN, flows -> flows.keep(i));
            refused("goBack(" + i + ")", UNKNOWN, flows -> flows.goBack(i));
        }
    }

    private static void outsideWhat() {
        for (int low : new int[] {LOWEST, -1}) {
            refused("told(" + low + ")", OUTSIDE, flows -> flows.told(low));
            refused("reachAt(0, " + low + ")", OUTSIDE, flows -> flows.reachAt(0, low));
            refused("weight(0, " + low + ")", OUTSIDE, flows -> flows.weight(0, low));
            refused("flow(0, 0, " + low + ")", OUTSIDE, flows -> flows.flow(0, 0, low));
            refused("sum(0, " + low + ")", OUTSIDE, flows -> flows.sum(0, low));
        }
        for (int more : new int[] {0, 1, HIGHEST - 12}) {
            refused("told(10 and " + more + ")", OUTSIDE, flows -> flows.told(10 + more));
            refused("reachAt(0, 12 and " + more + ")", OUTSIDE, flows -> flows.reachAt(0, 12 + more));
            refused("weight(0, 4 and " + more + ")", OUTSIDE, flows -> flows.weight(0, 4 + more));
            refused("flow(0, 0, 5 and " + more + ")", OUTSIDE, flows -> flows.flow(0, 0, 5 + more));
            refused("sum(0, 8 and " + more + ")", OUTSIDE, flows -> flows.sum(0, 8 + more));
        }
    }

    private static void outsideOthers() {
        for (int k : new int[] {LOWEST, -1, 21, HIGHEST}) {
            refused("reach(0, " + k + ", 0, 1)", OUTSIDE, flows -> flows.reach(0, k, 0, 1));
            refused("change(0, " + k + ", 0)", OUTSIDE, flows -> flows.change(0, k, 0));
            refused("would(0, 0, " + k + ", 0)", OUTSIDE, flows -> flows.would(0, 0, k, 0));
            refused("drift(" + k + " or 0)", OUTSIDE, flows -> flows.drift(k == -1 ? 0 : k));
        }
        for (int x : new int[] {LOWEST, -1, 11, HIGHEST}) {
            refused("reach(0, 0, " + x + ", 1)", OUTSIDE, flows -> flows.reach(0, 0, x, 1));
            refused("change(0, 0, " + x + ")", OUTSIDE, flows -> flows.change(0, 0, x));
            refused("would(0, 0, 0, " + x + ")", OUTSIDE, flows -> flows.would(0, 0, 0, x));
        }
        for (int parts : new int[] {LOWEST, -1, 0, 5, HIGHEST}) {
            refused("reach(0, 0, 0, " + parts + ")", OUTSIDE, flows -> flows.reach(0, 0, 0, parts));
        }
        for (int v : new int[] {LOWEST, -1, 10000, HIGHEST}) {
            refused("side(0, 0, " + v + ")", OUTSIDE, flows -> flows.side(0, 0, v));
            refused("seen(0, 0, " + v + ")", OUTSIDE, flows -> flows.seen(0, 0, v));
        }
        for (int low : new int[] {LOWEST, -1, 0}) {
            refused("times(" + (low + 1) + ")", OUTSIDE, flows -> flows.times(low + 1));
            refused("step(" + low + ")", OUTSIDE, flows -> flows.step(low));
            refused("undo(" + low + ")", OUTSIDE, flows -> flows.undo(low));
        }
        for (int more : new int[] {0, 1, HIGHEST - 300}) {
            refused("feed(256 and " + more + ")", OUTSIDE, flows -> flows.feed(256 + more));
            refused("times(25 and " + more + ")", OUTSIDE, flows -> flows.times(25 + more));
            refused("step(10 and " + more + ")", OUTSIDE, flows -> flows.step(10 + more));
            refused("undo(17 and " + more + ")", OUTSIDE, flows -> flows.undo(17 + more));
        }
        for (int low : new int[] {LOWEST, -1}) {
            refused("feed(" + low + ")", OUTSIDE, flows -> flows.feed(low));
            refused("seed(" + low + ")", OUTSIDE, flows -> flows.seed(low));
        }
    }

    private static void notNowAndFull() {
        refused("undo(4) of 3", NOT, flows -> flows.undo(4));
        refused("undo(16) of 3", NOT, flows -> flows.undo(16));
        refused("goBack(1), that was not kept", NOT, flows -> flows.goBack(1));
        refused("feed, the 201st", FULL, flows -> flows.feed(';'));
        refused("reach above 8 PARTS", FULL, flows -> flows.reach(NONE, 0, 0, 1));
        refused("write, the 21st", FULL, flows -> flows.write(1, 4, 0));
        ReachFlows none = new ReachFlows();
        Checks.due("take of none", none.take(), NOT);
        Checks.due("take of none is no deed", none.told(8), 0);
        ReachFlows six = Checks.told("r-0 0 1;r-0 0 1;r-0 0 1;r-0 0 1;r-0 0 1;r-0 0 1;");
        Checks.due("reach, the seventh, of 7 PARTS", six.reach(NONE, 0, 0, 1), FULL);
        Checks.due("REACHES stay", six.told(2), 6);
        Checks.due("it was no deed", six.told(8), 1);
    }

    private static void severalAtOnce() {
        refused("feed: OUTSIDE, FULL", OUTSIDE, flows -> flows.feed(256));
        refused("reachAt: UNKNOWN, OUTSIDE", UNKNOWN, flows -> flows.reachAt(2, 12));
        refused("weight: UNKNOWN, OUTSIDE", UNKNOWN, flows -> flows.weight(2, 4));
        refused("flow: UNKNOWN REACH, OUTSIDE", UNKNOWN, flows -> flows.flow(2, 0, 5));
        refused("flow: UNKNOWN TIME, OUTSIDE", UNKNOWN, flows -> flows.flow(0, 5, 5));
        refused("sum: UNKNOWN, OUTSIDE", UNKNOWN, flows -> flows.sum(2, 8));
        refused("would: UNKNOWN r, OUTSIDE k", UNKNOWN, flows -> flows.would(2, 0, 21, 0));
        refused("would: UNKNOWN q, OUTSIDE x", UNKNOWN, flows -> flows.would(0, 2, 0, 11));
        refused("reach: UNKNOWN, OUTSIDE, FULL", UNKNOWN, flows -> flows.reach(2, 21, 0, 1));
        refused("reach: UNKNOWN, FULL", UNKNOWN, flows -> flows.reach(2, 0, 0, 1));
        refused("reach: OUTSIDE k, FULL", OUTSIDE, flows -> flows.reach(0, 21, 0, 1));
        refused("reach: OUTSIDE x, FULL", OUTSIDE, flows -> flows.reach(0, 0, 11, 1));
        refused("reach: OUTSIDE parts, FULL", OUTSIDE, flows -> flows.reach(0, 0, 0, 5));
        refused("change: UNKNOWN, OUTSIDE", UNKNOWN, flows -> flows.change(2, 21, 11));
        refused("side: UNKNOWN REACH, OUTSIDE", UNKNOWN, flows -> flows.side(2, 0, -1));
        refused("side: UNKNOWN TIME, OUTSIDE", UNKNOWN, flows -> flows.side(0, 5, -1));
        refused("seen: UNKNOWN REACH, OUTSIDE", UNKNOWN, flows -> flows.seen(2, 0, 10000));
        refused("seen: UNKNOWN TIME, OUTSIDE", UNKNOWN, flows -> flows.seen(0, 5, 10000));
        refused("undo: OUTSIDE, NOT", OUTSIDE, flows -> flows.undo(17));
        refused("write: UNKNOWN REACH, FULL", UNKNOWN, flows -> flows.write(2, 0, 0));
        refused("write: UNKNOWN TIME, FULL", UNKNOWN, flows -> flows.write(0, 5, 0));
        refused("goBack: UNKNOWN, NOT", UNKNOWN, flows -> flows.goBack(2));
        ReachFlows six = Checks.told("r-0 0 1;r-0 0 1;r-0 0 1;r-0 0 1;r-0 0 1;r-0 0 1;");
        Checks.due("reach, the seventh: UNKNOWN, FULL", six.reach(6, 0, 0, 1), UNKNOWN);
        Checks.due("reach, the seventh: OUTSIDE, FULL", six.reach(5, 0, 0, 0), OUTSIDE);
    }

    /** The least that is counted at all: -14 by FAULT 4; flows, which may be far below 0, come with PLUS. */
    private static void farBelow() {
        Checks.due("UNKNOWN", UNKNOWN, -1000000001);
        Checks.due("OUTSIDE", OUTSIDE, -1000000002);
        Checks.due("NOT", NOT, -1000000003);
        Checks.due("FULL", FULL, -1000000004);
        // A is -190, B 210, C 190, M 210 in each of 8 PARTS; 9999 comes in at every other TIME.
        ReachFlows steep = Checks.told("t24;r-20 10 4;r0 20 10 4;");
        for (int t = 1; t < 24; t += 2) {
            steep.side(0, t, 9999);
            steep.side(1, t, 9999);
        }
        for (int t = 0; t < 24; t++) {
            for (int what = 2; what <= 4; what++) {
                Checks.holds("flow(0, " + t + ", " + what + ") is above 0", steep.flow(0, t, what) > 0);
            }
        }
        Checks.holds("the least OUT is far below 0", steep.sum(0, 2) < ReachFlows.PLUS - 9999);
        for (int what = 0; what <= 4; what++) {
            Checks.holds("sum(0, " + what + ") is above 0", steep.sum(0, what) > 0);
        }
    }

    private static void changesNothing() {
        ReachFlows flows = full();
        int[] answers = {flows.times(1), flows.step(0), flows.reach(0, 0, 0, 1), flows.change(0, 21, 0), flows.side(0, 5, 1),
            flows.seen(0, 0, -1), flows.show(2), flows.drift(0), flows.undo(4), flows.write(0, 0, 740), flows.seed(-1),
            flows.keep(2), flows.goBack(1), flows.feed(' ')};
        for (int i = 0; i < answers.length; i++) {
            Checks.holds("refused, the " + i + "th of a run", answers[i] <= UNKNOWN);
        }
        Checks.holds("a run of refused calls changes nothing", all(flows).equals(FULL_ONE));
    }
}
