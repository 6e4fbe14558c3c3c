/** The bounds that promises 13 to 25 name: deeds, what is undone, the book, the seed and images. */
final class DeedBounds {
    private static final int NONE = ReachFlows.NONE, UNKNOWN = ReachFlows.UNKNOWN, OUTSIDE = ReachFlows.OUTSIDE;
    private static final int NOT = ReachFlows.NOT, FULL = ReachFlows.FULL;
    private static final long PLUS = ReachFlows.PLUS;

    private DeedBounds() {
    }

    static void run() {
        promise13();
        promise13Refused();
        promise14();
        promise15();
        promise16();
        promise17();
        promise18();
        promise19();
        promise20();
        promise21();
        promise22();
        promise23();
        promise24();
        promise25();
    }

    private static void promise13() {
        Document.says(13, "A REACH comes (below NONE: the sea), SIDE, SEEN 0: its number.");
        ReachFlows flows = new ReachFlows();
        Checks.due("the first", flows.reach(NONE, 20, 10, 3), 0);
        Checks.due("BELOW NONE", flows.reachAt(0, 0), NONE);
        for (int r = 1; r < 6; r++) {
            Checks.due("below the one ahead of it", flows.reach(r - 1, 0, 0, 1), r);
            Checks.due("BELOW", flows.reachAt(r, 0), r - 1);
            Checks.due("SIDE", flows.flow(r, 11, 0), 0);
            Checks.due("SEEN", flows.flow(r, 11, 1), 0);
        }
        // A REACH of that number was there, with SIDE and SEEN.
        flows.times(24);
        flows.side(5, 23, 9999);
        flows.seen(5, 0, 9999);
        flows.take();
        Checks.due("the last anew", flows.reach(NONE, 0, 0, 1), 5);
        Checks.dueRow("SIDE of the last", Checks.row(flows, 5, 0), new long[24]);
        Checks.dueRow("SEEN of the last", Checks.row(flows, 5, 1), new long[24]);
    }

    private static void promise13Refused() {
        Document.says(13, "UNKNOWN, OUTSIDE, FULL (6; above 8 PARTS).");
        ReachFlows flows = new ReachFlows();
        Checks.due("reach(0, ..) of none", flows.reach(0, 0, 0, 1), UNKNOWN);
        Checks.due("reach(-2, ..)", flows.reach(-2, 0, 0, 1), UNKNOWN);
        int[][] outside = {{-1, 0, 1}, {21, 0, 1}, {0, -1, 1}, {0, 11, 1}, {0, 0, 0}, {0, 0, 5}};
        for (int[] o : outside) {
            Checks.due("reach(NONE, " + o[0] + ", " + o[1] + ", " + o[2] + ")", flows.reach(NONE, o[0], o[1], o[2]), OUTSIDE);
        }
        for (int r = 0; r < 6; r++) {
            Checks.due("reach, of 6 PARTS in the end", flows.reach(NONE, 0, 0, 1), r);
        }
        Checks.due("the seventh", flows.reach(NONE, 0, 0, 1), FULL);
        flows.river();
        flows.reach(NONE, 0, 0, 4);
        flows.reach(NONE, 0, 0, 3);
        Checks.due("9 PARTS", flows.reach(NONE, 0, 0, 2), FULL);
        Checks.due("8 PARTS", flows.reach(NONE, 0, 0, 1), 2);
        Checks.due("9 PARTS, by one", flows.reach(NONE, 0, 0, 1), FULL);
        Checks.due("REACHES", flows.told(2), 3);
    }

    private static void promise14() {
        Document.says(14, "K, X of a REACH: 1 it is LAWFUL then, 0 not. UNKNOWN, OUTSIDE.");
        ReachFlows flows = Checks.told("d3;r-1 1 1;r-1 1 1;");
        Checks.due("A is 0", flows.change(1, 3, 10), 1);
        Checks.due("A is -2", flows.change(1, 4, 8), 0);
        Checks.due("C is 0", flows.change(1, 2, 5), 1);
        Checks.due("C is -2", flows.change(1, 2, 6), 0);
        Checks.due("the least K, X", flows.change(1, 0, 0), 0);
        Checks.due("the greatest K, X", flows.change(1, 20, 10), 0);
        Checks.dueRow("K, X", new long[] {flows.reachAt(1, 1), flows.reachAt(1, 2)}, 20, 10);
        Checks.dueRow("K, X of the other", new long[] {flows.reachAt(0, 1), flows.reachAt(0, 2)}, 1, 1);
        Checks.due("change(2, 0, 0)", flows.change(2, 0, 0), UNKNOWN);
        Checks.due("change(-1, 0, 0)", flows.change(-1, 0, 0), UNKNOWN);
        Checks.due("change(1, -1, 0)", flows.change(1, -1, 0), OUTSIDE);
        Checks.due("change(1, 21, 0)", flows.change(1, 21, 0), OUTSIDE);
        Checks.due("change(1, 0, -1)", flows.change(1, 0, -1), OUTSIDE);
        Checks.due("change(1, 0, 11)", flows.change(1, 0, 11), OUTSIDE);
        Checks.dueRow("K, X are as they were", new long[] {flows.reachAt(1, 1), flows.reachAt(1, 2)}, 20, 10);
    }

    private static void promise15() {
        Document.says(15, "SIDE of a REACH at a TIME: what it was. UNKNOWN, OUTSIDE.");
        ReachFlows flows = Checks.told("r-0 0 1;r-0 0 1;");
        Checks.due("the greatest, at the last TIME", flows.side(1, 11, 9999), 0);
        Checks.due("the least", flows.side(1, 11, 0), 9999);
        Checks.due("the least again", flows.side(1, 11, 0), 0);
        Checks.due("at the first TIME", flows.side(0, 0, 1), 0);
        Checks.due("SIDE of the other", flows.flow(1, 0, 0), 0);
        Checks.due("SEEN", flows.flow(0, 0, 1), 0);
        Checks.due("side(2, 0, 0)", flows.side(2, 0, 0), UNKNOWN);
        Checks.due("side(-1, 0, 0)", flows.side(-1, 0, 0), UNKNOWN);
        Checks.due("side(0, 12, 0)", flows.side(0, 12, 0), UNKNOWN);
        Checks.due("side(0, -1, 0)", flows.side(0, -1, 0), UNKNOWN);
        Checks.due("side(0, 0, -1)", flows.side(0, 0, -1), OUTSIDE);
        Checks.due("side(0, 0, 10000)", flows.side(0, 0, 10000), OUTSIDE);
        Checks.due("SIDE is as it was", flows.flow(0, 0, 0), 1);
    }

    private static void promise16() {
        Document.says(16, "SEEN of a REACH at a TIME: what it was. UNKNOWN, OUTSIDE.");
        ReachFlows flows = Checks.told("r-0 0 1;r-0 0 1;");
        Checks.due("the greatest, at the last TIME", flows.seen(1, 11, 9999), 0);
        Checks.due("the least", flows.seen(1, 11, 0), 9999);
        Checks.due("the least again", flows.seen(1, 11, 0), 0);
        Checks.due("at the first TIME", flows.seen(0, 0, 1), 0);
        Checks.due("SEEN of the other", flows.flow(1, 0, 1), 0);
        Checks.due("SIDE", flows.flow(0, 0, 0), 0);
        Checks.due("seen(2, 0, 0)", flows.seen(2, 0, 0), UNKNOWN);
        Checks.due("seen(-1, 0, 0)", flows.seen(-1, 0, 0), UNKNOWN);
        Checks.due("seen(0, 12, 0)", flows.seen(0, 12, 0), UNKNOWN);
        Checks.due("seen(0, -1, 0)", flows.seen(0, -1, 0), UNKNOWN);
        Checks.due("seen(0, 0, -1)", flows.seen(0, 0, -1), OUTSIDE);
        Checks.due("seen(0, 0, 10000)", flows.seen(0, 0, 10000), OUTSIDE);
        Checks.due("SEEN is as it was", flows.flow(0, 0, 1), 1);
    }

    private static void promise17() {
        Document.says(17, "SEEN of a REACH becomes OUT at each TIME (0, if that is below 0; 9999, if it is above): "
            + "how many are otherwise than OUT. UNKNOWN.");
        // K 0: OUT is IN: 9999 is not above, 10000 is; the last TIME counts.
        ReachFlows flows = Checks.told("t4;r-0 0 1;r0 0 0 1;s0 9998 9999 9999 9999;s1 1 0 1 9999;");
        Checks.due("show of what is above 9999", flows.show(0), 2);
        Checks.dueRow("SEEN of what is above 9999", Checks.row(flows, 0, 1), 9999, 9999, 9999, 9999);
        Checks.dueRow("SEEN of the other", Checks.row(flows, 1, 1), 0, 0, 0, 0);
        // OUT of 1 is 0, 21 times -190 / 210, that is -19; with SIDE 18, 19, 20 IN of 0 is -1, 0, 1.
        for (int side = 18; side <= 20; side++) {
            flows = Checks.told("t2;r-0 0 1;r0 20 10 1;s1 0 21;");
            flows.side(0, 1, side);
            flows.seen(0, 0, 5);
            flows.seen(0, 1, 5);
            Checks.due("show of " + (side - 19), flows.show(0), side == 18 ? 1 : 0);
            Checks.dueRow("SEEN of " + (side - 19), Checks.row(flows, 0, 1), 0, Math.max(0, side - 19));
        }
        Checks.due("show of nothing", Checks.told("r-20 10 4;").show(0), 0);
        Checks.due("show(2)", flows.show(2), UNKNOWN);
        Checks.due("show(-1)", flows.show(-1), UNKNOWN);
        Checks.due("show of none", new ReachFlows().show(0), UNKNOWN);
        // At TIMES that there are not SEEN stays.
        flows = Checks.told("t3;r-0 0 1;s0 1 2 3;");
        flows.seen(0, 2, 77);
        flows.times(2);
        flows.show(0);
        flows.times(3);
        Checks.dueRow("SEEN beyond T stays", Checks.row(flows, 0, 1), 1, 2, 77);
    }

    private static void promise18() {
        Document.says(18, "The last REACH goes: how many are left. NOT: there is none.");
        ReachFlows flows = new ReachFlows();
        Checks.due("take of none, on a new one", flows.take(), NOT);
        Checks.tell(flows, "r-0 0 1;r0 0 0 1;r1 0 0 1;r0 0 0 1;r-0 0 1;r3 0 0 1;s5 5;s3 7;");
        for (int left = 5; left >= 0; left--) {
            Checks.due("take", flows.take(), left);
            Checks.due("the last is gone", flows.reachAt(left, 0), UNKNOWN);
            if (left > 0) {
                Checks.due("IN of 0", flows.flow(0, 0, 2), PLUS + (left > 3 ? 7 : 0));
            }
        }
        Checks.due("take of none", flows.take(), NOT);
        Checks.dueRow("REACHES, PARTS, LAWFUL ones", new long[] {flows.told(2), flows.told(3), flows.told(4)}, 0, 0, 0);
        Checks.due("undo of the last take", flows.undo(1), 1);
        // What is gone is counted no more.
        flows = Checks.told("r-1 0 4;r0 1 0 3;");
        flows.take();
        Checks.dueRow("REACHES, PARTS, LAWFUL ones", new long[] {flows.told(2), flows.told(3), flows.told(4)}, 1, 4, 1);
        Checks.due("REACHES through the first", flows.reachAt(0, 7), 1);
    }

    private static void promise19() {
        Document.says(19, "n times BY DRAWS (1 .. 20): THE SEED. OUTSIDE.");
        ReachFlows flows = Checks.told("r-0 0 1;");
        flows.keep(0);
        Checks.due("drift(0)", flows.drift(0), OUTSIDE);
        Checks.due("drift(21)", flows.drift(21), OUTSIDE);
        Checks.due("drift(-1)", flows.drift(-1), OUTSIDE);
        Checks.due("THE SEED", flows.told(9), 0);
        Checks.due("drift(1)", flows.drift(1), 654583775);
        Checks.due("deeds of one", flows.told(8), 1);
        flows.goBack(0);
        Checks.due("drift(20)", flows.drift(20), 321843028);
        Checks.due("deeds of 20", flows.told(8), 16);
        flows.goBack(0);
        for (int i = 0; i < 20; i++) {
            flows.drift(1);
        }
        Checks.due("20 times drift(1)", flows.told(9), 321843028);
    }

    private static void promise20() {
        Document.says(20, "The n latest (1 .. 16) are undone: REACHES. OUTSIDE, NOT: not so many.");
        ReachFlows flows = new ReachFlows();
        Checks.due("undo(0)", flows.undo(0), OUTSIDE);
        Checks.due("undo(17)", flows.undo(17), OUTSIDE);
        Checks.due("undo(1) of none", flows.undo(1), NOT);
        Checks.due("undo(16) of none", flows.undo(16), NOT);
        for (int i = 0; i < 3; i++) {
            flows.reach(NONE, 0, 0, 1);
        }
        Checks.due("undo(4) of 3", flows.undo(4), NOT);
        Checks.due("undo(3) of 3", flows.undo(3), 0);
        for (int i = 1; i <= 40; i++) {
            flows.times(2 + i % 23);
        }
        Checks.due("undo(17) of 16", flows.undo(17), OUTSIDE);
        Checks.due("undo(16) of 40", flows.undo(16), 0);
        Checks.due("T of the 24th", flows.told(0), 2 + 24 % 23);
        Checks.due("undo(1) of none left", flows.undo(1), NOT);
        // What is undone makes room: again 16, and the ring holds no older ones.
        for (int i = 1; i <= 20; i++) {
            flows.times(2 + i);
            if (i % 5 == 0) {
                Checks.due("undo(2) in between", flows.undo(2), 0);
            }
        }
        Checks.due("deeds: 20 less 8", flows.told(8), 12);
        Checks.due("T of the 18th", flows.told(0), 20);
        Checks.due("undo(12)", flows.undo(12), 0);
        Checks.due("T ahead of them", flows.told(0), 2 + 24 % 23);
    }

    private static void promise21() {
        Document.says(21, "An entry behind THE BOOK (OUT v, without PLUS, any, of REACH r at a TIME): how many. UNKNOWN, FULL (20).");
        ReachFlows flows = Checks.told("t2;r-0 0 1;r-20 10 1;s0 5 6;s1 0 21;");
        Checks.due("write(2, 0, 0)", flows.write(2, 0, 0), UNKNOWN);
        Checks.due("write(-1, 0, 0)", flows.write(-1, 0, 0), UNKNOWN);
        Checks.due("write(0, 2, 0)", flows.write(0, 2, 0), UNKNOWN);
        Checks.due("write(0, -1, 0)", flows.write(0, -1, 0), UNKNOWN);
        Checks.due("entries", flows.told(6), 0);
        // Any number may be written; only OUT itself is not WRONG.
        long[] others = {PLUS + 6, 7, 5, -6, 6 + (1L << 32), 6 + (1L << 63), Long.MAX_VALUE, Long.MIN_VALUE};
        for (long other : others) {
            flows.tear();
            Checks.due("write of OUT", flows.write(0, 1, 6), 1);
            Checks.due("write of OUT below 0", flows.write(1, 1, -19), 2);
            Checks.due("WRONG", flows.told(7), NONE);
            Checks.due("write of " + other, flows.write(0, 1, other), 3);
            Checks.due("WRONG by " + other, flows.told(7), 2);
        }
        for (int i = 4; i <= 20; i++) {
            Checks.due("entry " + i, flows.write(0, 0, 0), i);
        }
        Checks.due("entry 21", flows.write(0, 0, 0), FULL);
        Checks.due("entry 21 of none", flows.write(2, 0, 0), UNKNOWN);
        Checks.due("entries", flows.told(6), 20);
        Checks.due("it is no deed", flows.told(8), 1);
    }

    private static void promise22() {
        Document.says(22, "No BOOK: how much it had.");
        ReachFlows flows = Checks.told("r-0 0 1;");
        Checks.due("tear of an empty one", flows.tear(), 0);
        for (int i = 0; i < 21; i++) {
            flows.write(0, 0, 1);
        }
        Checks.due("WRONG", flows.told(7), 0);
        Checks.due("tear of a full one", flows.tear(), 20);
        Checks.due("entries", flows.told(6), 0);
        Checks.due("WRONG of none", flows.told(7), NONE);
        Checks.due("tear again", flows.tear(), 0);
        Checks.due("the first entry anew", flows.write(0, 0, 0), 1);
        Checks.due("WRONG anew", flows.told(7), NONE);
        Checks.due("it is no deed", flows.told(8), 1);
    }

    private static void promise23() {
        Document.says(23, "THE SEED becomes v (0 .. 2147483647): what it was. OUTSIDE.");
        ReachFlows flows = new ReachFlows();
        Checks.due("seed(2147483647)", flows.seed(2147483647), 0);
        Checks.due("seed(-1)", flows.seed(-1), OUTSIDE);
        Checks.due("seed of the least int", flows.seed(Integer.MIN_VALUE), OUTSIDE);
        Checks.due("THE SEED", flows.told(9), 2147483647);
        Checks.due("seed(0)", flows.seed(0), 2147483647);
        Checks.due("seed(0) again", flows.seed(0), 0);
        Checks.due("it is no deed", flows.told(8), 0);
    }

    private static void promise24() {
        Document.says(24, "IMAGE i becomes what is so (nothing can be undone then): 1. UNKNOWN.");
        ReachFlows flows = new ReachFlows();
        Checks.due("keep(0) of a new one", flows.keep(0), 1);
        flows.reach(NONE, 0, 0, 1);
        flows.side(0, 0, 9);
        Checks.due("keep(-1)", flows.keep(-1), UNKNOWN);
        Checks.due("keep(2)", flows.keep(2), UNKNOWN);
        Checks.due("deeds stay, if it is refused", flows.told(8), 2);
        Checks.due("keep(1)", flows.keep(1), 1);
        Checks.due("deeds", flows.told(8), 0);
        Checks.due("undo(1)", flows.undo(1), NOT);
        Checks.due("nothing else is otherwise", flows.flow(0, 0, 0), 9);
        flows.side(0, 0, 8);
        Checks.due("undo(1) of a deed behind it", flows.undo(1), 1);
        Checks.due("SIDE", flows.flow(0, 0, 0), 9);
        // A later one of the same number takes its place, the other stays.
        flows.side(0, 0, 7);
        flows.keep(1);
        flows.goBack(0);
        Checks.due("REACHES of IMAGE 0", flows.told(2), 0);
        flows.goBack(1);
        Checks.due("SIDE of IMAGE 1", flows.flow(0, 0, 0), 7);
    }

    private static void promise25() {
        Document.says(25, "What is so becomes IMAGE i (nothing can be undone then): 1. UNKNOWN, NOT: it was not kept.");
        ReachFlows flows = Checks.told("r-0 0 1;");
        Checks.due("goBack(0), not kept", flows.goBack(0), NOT);
        Checks.due("goBack(1), not kept", flows.goBack(1), NOT);
        Checks.due("goBack(-1)", flows.goBack(-1), UNKNOWN);
        Checks.due("goBack(2)", flows.goBack(2), UNKNOWN);
        Checks.due("deeds stay, if it is refused", flows.told(8), 1);
        flows.keep(1);
        Checks.due("goBack(0), if the other was kept", flows.goBack(0), NOT);
        flows.take();
        flows.feed('x');
        Checks.due("goBack(1)", flows.goBack(1), 1);
        Checks.due("REACHES", flows.told(2), 1);
        Checks.due("deeds", flows.told(8), 0);
        Checks.due("undo(1)", flows.undo(1), NOT);
        Checks.due("THE TEXT stays", flows.told(5), 1);
        // It stays kept, whatever becomes of what is so.
        flows.side(0, 0, 5);
        Checks.due("goBack(1) again", flows.goBack(1), 1);
        Checks.due("SIDE", flows.flow(0, 0, 0), 0);
    }
}
