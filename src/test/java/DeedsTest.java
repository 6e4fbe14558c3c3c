/** Promises 11 to 25, by numbers reckoned by hand from the document. */
public final class DeedsTest {
    private static final int NONE = ReachFlows.NONE, UNKNOWN = ReachFlows.UNKNOWN, OUTSIDE = ReachFlows.OUTSIDE;
    private static final int NOT = ReachFlows.NOT, FULL = ReachFlows.FULL;
    private static final long PLUS = ReachFlows.PLUS;

    public static void main(String[] args) {
        promise11Times();
        promise11Shorter();
        promise12Step();
        promise13Reach();
        promise14Change();
        promise15Side();
        promise16Seen();
        promise17Show();
        promise18Take();
        promise19Drift();
        promise20Undo();
        promise20EachDeed();
        promise21Write();
        promise21Wrong();
        promise22Tear();
        promise23Seed();
        promise24Keep();
        promise25GoBack();
        Checks.end();
    }

    private static void promise11Times() {
        ReachFlows flows = Checks.told("r-0 0 1;");
        flows.side(0, 11, 5);
        flows.seen(0, 11, 6);
        Checks.due("times(2)", flows.times(2), 12);
        Checks.due("a TIME that is gone", flows.flow(0, 2, 0), UNKNOWN);
        Checks.due("PEAK without it", flows.sum(0, 0), PLUS);
        flows.show(0);
        Checks.due("times(24)", flows.times(24), 2);
        Checks.due("SIDE is there again", flows.flow(0, 11, 0), 5);
        Checks.due("SEEN is there again", flows.flow(0, 11, 1), 6);
        Checks.due("the last TIME", flows.flow(0, 23, 0), 0);
        Checks.due("times(24) again", flows.times(24), 24);
        Checks.due("T", flows.told(0), 24);
    }

    /** What is beyond T counts for nothing, even if it was asked for ahead of that. */
    private static void promise11Shorter() {
        for (int beyond : new int[] {0, 9999}) {
            ReachFlows flows = Checks.told("r-20 10 2;r0 20 10 1;s0 50 60 70;s1 50 60 70;");
            ReachFlows bare = Checks.told("t3;r-20 10 2;r0 20 10 1;s0 50 60 70;s1 50 60 70;");
            for (int t = 0; t < 3; t++) {
                flows.seen(0, t, 40 + t);
                bare.seen(0, t, 40 + t);
            }
            flows.side(0, 3, beyond);
            flows.side(1, 3, 9999 - beyond);
            flows.seen(0, 3, beyond);
            askAll(flows);
            flows.times(3);
            Checks.dueRow("all that is asked, less beyond T", askAll(flows), askAll(bare));
            flows.show(0);
            flows.times(4);
            Checks.due("show leaves what is beyond T", flows.flow(0, 3, 1), beyond);
        }
    }

    private static long[] askAll(ReachFlows flows) {
        long[] answers = new long[40];
        for (int r = 0; r < 2; r++) {
            for (int what = 0; what < 12; what++) {
                answers[20 * r + what] = flows.reachAt(r, what);
            }
            for (int what = 0; what < 8; what++) {
                answers[20 * r + 12 + what] = flows.sum(r, what);
            }
        }
        return answers;
    }

    private static void promise12Step() {
        ReachFlows flows = Checks.told("r-1 0 1;s0 30;");
        Checks.due("step(2)", flows.step(2), 1);
        // A, B are 20, C is 0, M is 40.
        Checks.due("OUT by D 2", flows.flow(0, 1, 3), PLUS + 15);
        Checks.due("step(9)", flows.step(9), 2);
        Checks.due("D", flows.told(1), 9);
    }

    private static void promise13Reach() {
        ReachFlows flows = new ReachFlows();
        Checks.due("UNKNOWN ahead of OUTSIDE", flows.reach(0, 21, 1, 1), UNKNOWN);
        int[][] outside = {{-1, -1, 0, 1}, {-1, 21, 0, 1}, {-1, 0, -1, 1}, {-1, 0, 11, 1}, {-1, 0, 0, 0}, {-1, 0, 0, 5}};
        for (int[] o : outside) {
            Checks.due("reach of " + java.util.Arrays.toString(o), flows.reach(o[0], o[1], o[2], o[3]), OUTSIDE);
        }
        Checks.due("the first", flows.reach(NONE, 20, 10, 3), 0);
        Checks.due("the second", flows.reach(0, 0, 0, 1), 1);
        Checks.due("below itself", flows.reach(2, 0, 0, 1), UNKNOWN);
        Checks.due("the third", flows.reach(1, 5, 6, 1), 2);
        Checks.dueRow("features", new long[] {flows.reachAt(2, 0), flows.reachAt(2, 1), flows.reachAt(2, 2), flows.reachAt(2, 3)}, 1, 5, 6, 1);
        Checks.due("above 8 PARTS", flows.reach(0, 0, 0, 4), FULL);
        Checks.due("the fourth", flows.reach(0, 0, 0, 1), 3);
        Checks.due("the fifth", flows.reach(0, 0, 0, 1), 4);
        Checks.due("above 8 PARTS by one", flows.reach(0, 0, 0, 2), FULL);
        Checks.due("the sixth", flows.reach(4, 0, 0, 1), 5);
        Checks.due("8 PARTS", flows.told(3), 8);
        Checks.due("OUTSIDE ahead of FULL", flows.reach(0, 0, 0, 5), OUTSIDE);
        ReachFlows six = Checks.told("r-1 1 1;r-1 1 1;r-1 1 1;r-1 1 1;r-1 1 1;r-1 1 1;");
        Checks.due("a seventh of 6 PARTS", six.reach(NONE, 1, 1, 1), FULL);
        ReachFlows again = Checks.told("r-1 1 1;s0 5 6 7;");
        again.seen(0, 1, 4);
        again.times(24);
        again.side(0, 23, 9);
        again.take();
        again.reach(NONE, 1, 1, 1);
        Checks.dueRow("SIDE of a new one", Checks.row(again, 0, 0), new long[24]);
        Checks.dueRow("SEEN of a new one", Checks.row(again, 0, 1), new long[24]);
    }

    private static void promise14Change() {
        ReachFlows flows = Checks.told("r-1 1 2;s0 30;");
        Checks.due("change to lawful ones", flows.change(0, 1, 10), 1);
        Checks.due("K", flows.reachAt(0, 1), 1);
        Checks.due("X", flows.reachAt(0, 2), 10);
        Checks.due("PARTS stay", flows.reachAt(0, 3), 2);
        Checks.due("SIDE stays", flows.flow(0, 0, 0), 30);
        Checks.due("change to unlawful ones", flows.change(0, 20, 1), 0);
        Checks.due("change to the least", flows.change(0, 0, 0), 0);
        Checks.due("change to the greatest", flows.change(0, 20, 10), 0);
    }

    private static void promise15Side() {
        ReachFlows flows = Checks.told("r-0 1 1;r0 0 1 1;");
        Checks.due("side(1, 11, 9999)", flows.side(1, 11, 9999), 0);
        Checks.due("side(1, 11, 0)", flows.side(1, 11, 0), 9999);
        flows.side(1, 3, 7);
        Checks.due("SIDE of 1", flows.flow(1, 3, 0), 7);
        Checks.due("SIDE of 0", flows.flow(0, 3, 0), 0);
        Checks.due("IN of 0", flows.flow(0, 3, 2), PLUS + 7);
    }

    private static void promise16Seen() {
        ReachFlows flows = Checks.told("r-0 1 1;r0 0 1 1;");
        Checks.due("seen(1, 11, 9999)", flows.seen(1, 11, 9999), 0);
        Checks.due("seen(1, 11, 3)", flows.seen(1, 11, 3), 9999);
        Checks.due("SEEN of 1", flows.flow(1, 11, 1), 3);
        Checks.due("SEEN of 0", flows.flow(0, 11, 1), 0);
        Checks.due("seen(1, 10, 0)", flows.seen(1, 10, 0), 0);
        Checks.due("OUT is as it was", flows.flow(1, 11, 3), PLUS);
    }

    private static void promise17Show() {
        // OUT of 1: 0, 9999 times -190 / 210 (60 left over), (20 times 9999 less 190 times 9047, and 60) / 210.
        ReachFlows flows = Checks.told("t3;r-0 0 1;r-20 10 1;r-0 0 1;s1 0 9999 9999;s2 9999 0 1;");
        Checks.dueRow("OUT", Checks.row(flows, 1, 3), 0, -9047, -7233);
        Checks.due("show of what is below 0", flows.show(1), 2);
        Checks.dueRow("SEEN of what is below 0", Checks.row(flows, 1, 1), 0, 0, 0);
        Checks.due("show", flows.show(2), 0);
        Checks.dueRow("SEEN", Checks.row(flows, 2, 1), 9999, 0, 1);
        flows = Checks.told("t3;r-0 0 1;r0 0 0 1;s0 1 9998 9999;s1 1 1 1;");
        Checks.due("show of what is above 9999", flows.show(0), 1);
        Checks.dueRow("SEEN of what is above 9999", Checks.row(flows, 0, 1), 2, 9999, 9999);
    }

    private static void promise18Take() {
        ReachFlows flows = Checks.told("r-0 0 1;r0 0 0 1;s1 5;");
        Checks.due("take of the last", flows.take(), 1);
        Checks.due("what came from it", flows.flow(0, 0, 2), PLUS);
        Checks.due("REACHES through", flows.reachAt(0, 7), 1);
        Checks.due("it is gone", flows.reachAt(1, 0), UNKNOWN);
        Checks.due("take of the first", flows.take(), 0);
        Checks.due("take of none", flows.take(), NOT);
        Checks.due("it was no deed", flows.told(8), 3);
    }

    private static void promise19Drift() {
        ReachFlows flows = new ReachFlows();
        Checks.due("drift without REACHES", flows.drift(5), 0);
        Checks.due("it is no deed", flows.told(8), 0);
        flows.reach(NONE, 0, 0, 1);
        flows.reach(NONE, 0, 0, 1);
        flows.reach(NONE, 0, 0, 1);
        // THE SEED: 12345 (DRAW 0 of any), 1406932606 (21468), 654583775 (9988).
        Checks.due("drift(1)", flows.drift(1), 654583775);
        Checks.due("deeds", flows.told(8), 4);
        Checks.due("SIDE of 0 at 21468 left over by 12", flows.flow(0, 0, 0), 11 * (9988 % 10));
        Checks.due("OUTSIDE leaves THE SEED", flows.drift(-1), OUTSIDE);
        Checks.due("THE SEED", flows.told(9), 654583775);
        flows.seed(2147483647);
        flows.drift(20);
        Checks.due("no more than 16 can be undone", flows.told(8), 16);
        Checks.due("undo(1) undoes one DRAWING", flows.undo(1), 3);
        Checks.due("15 are left", flows.told(8), 15);
    }

    private static void promise20Undo() {
        ReachFlows flows = new ReachFlows();
        for (int i = 0; i < 20; i++) {
            flows.step(i % 9 + 1);
        }
        Checks.due("can be undone", flows.told(8), 16);
        Checks.due("undo(1)", flows.undo(1), 0);
        Checks.due("D of the 19th", flows.told(1), 1);
        Checks.due("undo(16) of 15", flows.undo(16), NOT);
        Checks.due("undo(15)", flows.undo(15), 0);
        Checks.due("D of the 4th", flows.told(1), 4);
        Checks.due("undo(1) of none", flows.undo(1), NOT);
        flows.seed(5);
        flows.reach(NONE, 0, 0, 1);
        flows.write(0, 0, 3);
        flows.drift(1);
        int seed = flows.told(9);
        flows.feed('t');
        Checks.due("undo(2)", flows.undo(2), 0);
        Checks.due("THE SEED stays", flows.told(9), seed);
        Checks.due("THE BOOK stays", flows.told(6), 1);
        Checks.due("THE TEXT stays", flows.told(5), 1);
    }

    private interface Deed {
        void on(ReachFlows flows);
    }

    private static void promise20EachDeed() {
        undone("river()", flows -> flows.river());
        undone("times(5), that changes nothing", flows -> flows.times(5));
        undone("times(9)", flows -> flows.times(9));
        undone("step(2), that changes nothing", flows -> flows.step(2));
        undone("step(9)", flows -> flows.step(9));
        undone("reach(1, 1, 1, 1)", flows -> flows.reach(1, 1, 1, 1));
        undone("change(0, 20, 10)", flows -> flows.change(0, 20, 10));
        undone("side(0, 0, 1), that changes nothing", flows -> flows.side(0, 0, 1));
        undone("side(0, 0, 99)", flows -> flows.side(0, 0, 99));
        undone("seen(1, 2, 99)", flows -> flows.seen(1, 2, 99));
        undone("show(1)", flows -> flows.show(1));
        undone("take()", flows -> flows.take());
        undone("drift(1)", flows -> flows.drift(1));
    }

    /** Each on an object of its own: two pictures are some 160 of the 512 calls that one is good for. */
    private static void undone(String name, Deed deed) {
        ReachFlows flows = Checks.told("t5;d2;r-1 2 1;r0 3 4 2;s0 1 2 3 4 5;s1 6;");
        flows.seen(1, 2, 8);
        flows.keep(0);
        String before = Checks.picture(flows);
        deed.on(flows);
        Checks.due(name + " can be undone", flows.told(8), 1);
        Checks.due(name + ", REACHES undone", flows.undo(1), 2);
        Checks.holds(name + ": all is as it was", Checks.picture(flows).equals(before));
        Checks.due(name + " is undone", flows.told(8), 0);
    }

    private static void promise21Write() {
        ReachFlows flows = Checks.told("t2;r-0 0 1;");
        for (int i = 1; i <= 20; i++) {
            Checks.due("write, the " + i + "th", flows.write(0, 0, 0), i);
        }
        Checks.due("write, the 21st", flows.write(0, 0, 0), FULL);
        Checks.due("UNKNOWN ahead of FULL", flows.write(1, 0, 0), UNKNOWN);
        Checks.due("entries", flows.told(6), 20);
        Checks.due("it is no deed", flows.told(8), 1);
    }

    private static void promise21Wrong() {
        ReachFlows flows = Checks.told("t3;r-0 0 1;r-20 10 1;s0 5 6 7;s1 0 1;");
        flows.write(0, 0, 5);
        flows.write(0, 2, 7);
        flows.write(1, 1, -1);
        Checks.due("none is WRONG", flows.told(7), NONE);
        flows.write(1, 0, Long.MAX_VALUE);
        flows.write(1, 0, Long.MIN_VALUE);
        Checks.due("the fourth is WRONG", flows.told(7), 3);
        flows.take();
        Checks.due("a REACH is no more", flows.told(7), 2);
        flows.times(2);
        Checks.due("a TIME is no more", flows.told(7), 1);
        flows.side(0, 0, 4);
        Checks.due("the first is WRONG", flows.told(7), 0);
        flows.undo(3);
        Checks.due("as it was", flows.told(7), 3);
        flows.river();
        Checks.due("entries of a river that is gone", flows.told(7), 0);
        Checks.due("entries stay", flows.told(6), 5);
    }

    private static void promise22Tear() {
        ReachFlows flows = Checks.told("r-0 0 1;");
        Checks.due("tear of none", flows.tear(), 0);
        flows.write(0, 0, 1);
        flows.write(0, 0, 1);
        Checks.due("tear of two", flows.tear(), 2);
        Checks.due("entries", flows.told(6), 0);
        Checks.due("WRONG", flows.told(7), NONE);
        Checks.due("write behind tear", flows.write(0, 0, 0), 1);
        Checks.due("WRONG behind tear", flows.told(7), NONE);
    }

    private static void promise23Seed() {
        ReachFlows flows = new ReachFlows();
        Checks.due("seed(2147483647)", flows.seed(2147483647), 0);
        Checks.due("THE SEED", flows.told(9), 2147483647);
        Checks.due("seed(0)", flows.seed(0), 2147483647);
        Checks.due("it is no deed", flows.told(8), 0);
    }

    private static void promise24Keep() {
        ReachFlows flows = Checks.told("t5;d2;r-1 2 1;s0 4;");
        Checks.due("keep(1)", flows.keep(1), 1);
        Checks.due("nothing can be undone", flows.told(8), 0);
        Checks.due("undo(1)", flows.undo(1), NOT);
        flows.side(0, 0, 9);
        Checks.due("one can be undone", flows.undo(1), 1);
        Checks.due("SIDE", flows.flow(0, 0, 0), 4);
        flows.side(0, 0, 9);
        flows.keep(1);
        flows.side(0, 0, 8);
        flows.goBack(1);
        Checks.due("the later IMAGE", flows.flow(0, 0, 0), 9);
    }

    private static void promise25GoBack() {
        ReachFlows flows = Checks.told("t24;d2;r-1 2 1;r0 3 4 2;s0 4;");
        flows.side(1, 23, 6);
        flows.seen(1, 22, 7);
        flows.times(5);
        flows.seed(77);
        String before = Checks.picture(flows);
        Checks.due("goBack of none", flows.goBack(0), NOT);
        Checks.due("deeds behind a refused goBack", flows.told(8), 4);
        flows.keep(0);
        Checks.due("goBack of the other", flows.goBack(1), NOT);
        flows.drift(2);
        flows.take();
        flows.keep(1);
        flows.river();
        flows.feed('x');
        flows.write(0, 0, 0);
        flows.reach(NONE, 1, 1, 1);
        flows.write(0, 0, 5);
        Checks.due("goBack(0)", flows.goBack(0), 1);
        Checks.holds("all is as it was", Checks.picture(flows).equals(before));
        Checks.due("THE SEED is as it was", flows.told(9), 77);
        Checks.due("THE TEXT stays", flows.told(5), 1);
        Checks.due("THE BOOK stays", flows.told(6), 1);
        Checks.due("nothing can be undone", flows.told(8), 0);
        flows.times(24);
        Checks.due("SIDE beyond T", flows.flow(1, 23, 0), 6);
        Checks.due("SEEN beyond T", flows.flow(1, 22, 1), 7);
        Checks.due("goBack(1)", flows.goBack(1), 1);
        Checks.due("REACHES of IMAGE 1", flows.told(2), 1);
        Checks.due("goBack(0) again", flows.goBack(0), 1);
        Checks.holds("all is as it was again", Checks.picture(flows).equals(before));
    }
}
