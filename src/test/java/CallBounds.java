/** The bounds that promises 1 to 12 name: what is asked, and T and D. */
final class CallBounds {
    private static final int NONE = ReachFlows.NONE, UNKNOWN = ReachFlows.UNKNOWN, OUTSIDE = ReachFlows.OUTSIDE;
    private static final int FULL = ReachFlows.FULL;
    private static final long PLUS = ReachFlows.PLUS;

    private CallBounds() {
    }

    static void run() {
        promise1();
        promise2();
        promise3Empty();
        promise3Fault();
        promise4();
        promise5();
        promise6What();
        promise6Unfit();
        promise6Refused();
        promise7();
        promise8();
        promise9What();
        promise9Unfit();
        promise9Refused();
        promise10();
        promise10Refused();
        promise11();
        promise12();
    }

    private static void promise1() {
        Document.says(1, "No REACHES.");
        ReachFlows flows = new ReachFlows();
        Checks.due("REACHES", flows.told(2), 0);
        Checks.due("PARTS of all", flows.told(3), 0);
        Checks.due("LAWFUL ones", flows.told(4), 0);
        Checks.due("REACH 0", flows.reachAt(0, 0), UNKNOWN);
        Checks.due("take()", flows.take(), ReachFlows.NOT);
        Checks.due("fault()", flows.fault(), NONE);
        flows.reach(NONE, 0, 0, 1);
        Checks.due("REACHES of another new one", new ReachFlows().told(2), 0);
    }

    private static void promise2() {
        Document.says(2, "A letter (0 .. 255) comes behind THE TEXT: how many it has. OUTSIDE, FULL (200).");
        ReachFlows flows = new ReachFlows();
        Checks.due("feed(-1)", flows.feed(-1), OUTSIDE);
        Checks.due("feed(256)", flows.feed(256), OUTSIDE);
        Checks.due("letters", flows.told(5), 0);
        Checks.due("feed(0)", flows.feed(0), 1);
        Checks.due("feed(255)", flows.feed(255), 2);
        for (int i = 3; i <= 200; i++) {
            Checks.due("letter " + i, flows.feed('t'), i);
        }
        Checks.due("letter 201", flows.feed('t'), FULL);
        Checks.due("letter 201 out of its bounds", flows.feed(256), OUTSIDE);
        Checks.due("letters", flows.told(5), 200);
        flows.river();
        Checks.due("letter 1 behind river()", flows.feed('t'), 1);
    }

    private static void promise3Empty() {
        Document.says(3, "THE TEXT (it is empty then, with a FAULT, too) is the river: REACHES;");
        ReachFlows flows = new ReachFlows();
        Checks.due("river()", Checks.tell(flows, "r-0 0 1;"), 1);
        Checks.due("letters behind it", flows.told(5), 0);
        Checks.due("river() with a FAULT", Checks.tell(flows, "r-0 0 1;x"), -11);
        Checks.due("letters behind a FAULT", flows.told(5), 0);
        Checks.due("REACHES behind a FAULT", flows.told(2), 1);
        Checks.due("river() of nothing", flows.river(), 0);
        Checks.due("river() of six", Checks.tell(flows, "r-0 0 1;r-0 0 1;r-0 0 1;r-0 0 1;r-0 0 1;r-0 0 1;"), 6);
    }

    private static void promise3Fault() {
        Document.says(3, "-10 less the number of its FAULT (all else is as it was).");
        String[] faults = {"t7;x", "t7;r-21 0 1;", "t7;t7;", "t7;r-0 0 4;r-0 0 4;r-0 0 1;"};
        for (int number = 1; number <= 4; number++) {
            ReachFlows flows = Checks.told("t3;d2;r-1 2 4;r0 3 4 4;s0 1 2 3;");
            flows.seen(1, 2, 9);
            flows.write(0, 0, 1);
            flows.seed(5);
            String before = Checks.picture(flows);
            Checks.due("FAULT " + number, Checks.tell(flows, faults[number - 1]), -10 - number);
            Checks.holds("section 1 is as it was", Checks.picture(flows).equals(before));
            Checks.dueRow("entries, WRONG, deeds, THE SEED", new long[] {flows.told(6), flows.told(7), flows.told(8), flows.told(9)},
                1, NONE, 2, 5);
        }
    }

    private static void promise4() {
        Document.says(4, "The place (from 0 on) of the letter that has the FAULT of the latest river(); NONE.");
        ReachFlows flows = new ReachFlows();
        Checks.due("fault() without a river()", flows.fault(), NONE);
        Checks.tell(flows, "x");
        Checks.due("fault() at the first letter", flows.fault(), 0);
        flows.feed('t');
        flows.times(5);
        flows.undo(1);
        flows.keep(0);
        flows.goBack(0);
        Checks.due("fault() until the next river()", flows.fault(), 0);
        Checks.due("river()", flows.river(), -11);
        Checks.due("fault() at the end", flows.fault(), 1);
        flows.river();
        Checks.due("fault() behind a river() without one", flows.fault(), NONE);
        for (int i = 0; i < 199; i++) {
            flows.feed(' ');
        }
        Checks.tell(flows, "x");
        Checks.due("fault() at the last of 200 letters", flows.fault(), 199);
    }

    private static void promise5() {
        Document.says(5, "0 T, 1 D, 2 REACHES, 3 PARTS of all, 4 how many REACHES are LAWFUL, 5 letters of THE TEXT, "
            + "6 entries of THE BOOK, 7 WRONG, 8 how many can be undone, 9 THE SEED. OUTSIDE.");
        ReachFlows flows = new ReachFlows();
        told(flows, 12, 1, 0, 0, 0, 0, 0, NONE, 0, 0);
        Checks.due("told(-1)", flows.told(-1), OUTSIDE);
        Checks.due("told(10)", flows.told(10), OUTSIDE);
        Checks.tell(flows, "t24;d9;r-20 0 3;r0 9 10 1;r1 5 2 1;r2 9 10 1;r3 6 1 1;r4 20 4 1;");
        for (int i = 0; i < 16; i++) {
            flows.side(0, 0, 9999);
        }
        for (int i = 0; i < 20; i++) {
            flows.write(0, 0, i < 19 ? 9999 : 9998);
        }
        for (int i = 0; i < 200; i++) {
            flows.feed(' ');
        }
        flows.seed(2147483647);
        told(flows, 24, 9, 6, 8, 6, 200, 20, 19, 16, 2147483647);
    }

    private static void told(ReachFlows flows, long... want) {
        for (int what = 0; what < want.length; what++) {
            Checks.due("told(" + what + ")", flows.told(what), want[what]);
        }
    }

    private static void promise6What() {
        Document.says(6, "Of a REACH: what = 0 BELOW, 1 K, 2 X, 3 PARTS, 4 1 LAWFUL, 0 not, 5 the TIME of the PEAK of IN, 6 of OUT, "
            + "7 REACHES that flow through it (how many, itself, too), 8 NARROWEST, 9 LEAN, 10 k of BEST, 11 x of BEST");
        // D 1, K 1, X 0: OUT is 0, 10, 13, 4, 2 and 0 from then on; nothing was SEEN.
        ReachFlows flows = Checks.told("t12;r-20 10 4;r- 1 0 1;r1 0 0 1;s1 0 30;");
        long[] want = {NONE, 1, 0, 1, 1, 1, 2, 2, 0, 0};
        for (int what = 0; what < want.length; what++) {
            Checks.due("reachAt(1, " + what + ")", flows.reachAt(1, what), want[what]);
        }
        Checks.dueRow("K, X, PARTS, LAWFUL", new long[] {flows.reachAt(0, 1), flows.reachAt(0, 2), flows.reachAt(0, 3), flows.reachAt(0, 4)},
            20, 10, 4, 0);
        // Itself alone; all six, in a line and side by side.
        Checks.due("REACHES through one alone", flows.reachAt(0, 7), 1);
        Checks.due("REACHES through the last", flows.reachAt(2, 7), 1);
        ReachFlows line = Checks.told("r-0 0 1;r0 0 0 1;r1 0 0 1;r2 0 0 1;r3 0 0 1;r4 0 0 1;");
        ReachFlows fan = Checks.told("r-0 0 1;r0 0 0 1;r0 0 0 1;r0 0 0 1;r0 0 0 1;r0 0 0 1;");
        for (int r = 0; r < 6; r++) {
            Checks.due("REACHES through " + r + " of a line", line.reachAt(r, 7), 6 - r);
            Checks.due("REACHES through " + r + " of a fan", fan.reachAt(r, 7), r == 0 ? 6 : 1);
        }
    }

    /** IN of REACH 0 is 5 times 19045 and its SIDE at TIME 1: OUT of the others is 9999 times 400 / 210. */
    private static ReachFlows muchIn(int side) {
        ReachFlows flows = Checks.told("t3;r-1 0 1;r0 20 10 1;r0 20 10 1;r0 20 10 1;r0 20 10 1;r0 20 10 1;"
            + "s1 9999;s2 9999;s3 9999;s4 9999;s5 9999;");
        flows.side(0, 1, side);
        return flows;
    }

    /** IN of REACH 0 is its SIDE less 19 at TIME 1: OUT of the other is 21 times -190 / 210. */
    private static ReachFlows littleIn(int side) {
        ReachFlows flows = Checks.told("t2;r-1 0 1;r0 20 10 1;s1 0 21;");
        flows.side(0, 1, side);
        return flows;
    }

    private static void promise6Unfit() {
        Document.says(6, "(8 to 11: NONE: an IN is below 0 or above 99999).");
        for (int what = 8; what <= 11; what++) {
            Checks.due("reachAt(0, " + what + ") of IN -1", littleIn(18).reachAt(0, what), NONE);
            Checks.holds("reachAt(0, " + what + ") of IN 0", littleIn(19).reachAt(0, what) >= 0);
            Checks.holds("reachAt(0, " + what + ") of IN 99999", muchIn(4774).reachAt(0, what) >= 0);
            Checks.due("reachAt(0, " + what + ") of IN 100000", muchIn(4775).reachAt(0, what), NONE);
            Checks.holds("reachAt(1, " + what + ") beside it", muchIn(4775).reachAt(1, what) >= 0);
        }
        for (int what = 0; what <= 7; what++) {
            Checks.holds("reachAt(0, " + what + ") needs none of it", muchIn(4775).reachAt(0, what) >= (what == 0 ? NONE : 0));
        }
        Checks.due("IN at the bound", muchIn(4774).flow(0, 1, 2), PLUS + 99999);
        Checks.due("IN at the other bound", littleIn(19).flow(0, 1, 2), PLUS);
        // Only the TIMES that there are count; the last one does.
        ReachFlows flows = Checks.told("t3;r-1 0 1;r0 20 10 1;s1 0 0 21;");
        Checks.due("of IN -19 at the last TIME", flows.reachAt(0, 8), NONE);
        flows.times(2);
        Checks.due("of IN -19 at a TIME that there is no more", flows.reachAt(0, 8), 0);
    }

    private static void promise6Refused() {
        Document.says(6, "UNKNOWN, OUTSIDE.");
        ReachFlows flows = Checks.told("r-0 0 1;");
        Checks.due("reachAt(1, 0)", flows.reachAt(1, 0), UNKNOWN);
        Checks.due("reachAt(-1, 0)", flows.reachAt(-1, 0), UNKNOWN);
        Checks.due("reachAt(0, -1)", flows.reachAt(0, -1), OUTSIDE);
        Checks.due("reachAt(0, 12)", flows.reachAt(0, 12), OUTSIDE);
        Checks.due("reachAt(1, 12)", flows.reachAt(1, 12), UNKNOWN);
    }

    private static void promise7() {
        Document.says(7, "WEIGHTS of a REACH: what = 0 A and 1000, 1 B, 2 C and 1000, 3 M. UNKNOWN, OUTSIDE.");
        // The least A and the greatest C, by D 1; the greatest A and the least C, by D 9.
        ReachFlows flows = Checks.told("r-20 10 1;r-20 0 1;r-0 0 1;");
        Checks.dueRow("of K 20, X 10", weights(flows, 0), 810, 210, 1190, 210);
        Checks.dueRow("of K 20, X 0", weights(flows, 1), 1010, 10, 1390, 410);
        flows.step(9);
        Checks.dueRow("of K 0, X 0", weights(flows, 2), 1090, 90, 910, 90);
        Checks.due("weight(0, -1)", flows.weight(0, -1), OUTSIDE);
        Checks.due("weight(0, 4)", flows.weight(0, 4), OUTSIDE);
        Checks.due("weight(3, 0)", flows.weight(3, 0), UNKNOWN);
        Checks.due("weight(-1, 4)", flows.weight(-1, 4), UNKNOWN);
    }

    private static long[] weights(ReachFlows flows, int r) {
        return new long[] {flows.weight(r, 0), flows.weight(r, 1), flows.weight(r, 2), flows.weight(r, 3)};
    }

    private static void promise8() {
        Document.says(8, "At a TIME, of a REACH: what = 0 SIDE, 1 SEEN, 2 IN and PLUS, 3 OUT and PLUS, 4 STORED and PLUS. UNKNOWN, OUTSIDE.");
        ReachFlows flows = Checks.told("t2;r-20 10 1;s0 0 9999;");
        flows.seen(0, 1, 9999);
        // OUT is 9999 times -190 / 210, and 60 is left over.
        Checks.dueRow("at the last TIME", new long[] {flows.flow(0, 1, 0), flows.flow(0, 1, 1), flows.flow(0, 1, 2), flows.flow(0, 1, 3),
            flows.flow(0, 1, 4)}, 9999, 9999, PLUS + 9999, PLUS - 9047, PLUS + 200 * 9999 - 200 * 9047 + 60);
        Checks.dueRow("at the first TIME", new long[] {flows.flow(0, 0, 0), flows.flow(0, 0, 1), flows.flow(0, 0, 2), flows.flow(0, 0, 3),
            flows.flow(0, 0, 4)}, 0, 0, PLUS, PLUS, PLUS);
        Checks.due("flow(1, 0, 0)", flows.flow(1, 0, 0), UNKNOWN);
        Checks.due("flow(-1, 0, 0)", flows.flow(-1, 0, 0), UNKNOWN);
        Checks.due("flow(0, 2, 0)", flows.flow(0, 2, 0), UNKNOWN);
        Checks.due("flow(0, -1, 0)", flows.flow(0, -1, 0), UNKNOWN);
        Checks.due("flow(0, 0, -1)", flows.flow(0, 0, -1), OUTSIDE);
        Checks.due("flow(0, 0, 5)", flows.flow(0, 0, 5), OUTSIDE);
        Checks.due("flow(0, 2, 5)", flows.flow(0, 2, 5), UNKNOWN);
    }

    private static void promise9What() {
        Document.says(9, "Of a REACH: what = 0 PEAK of IN and PLUS, 1 PEAK of OUT and PLUS, 2 the least OUT and PLUS, "
            + "3 VOLUME of IN and PLUS, 4 VOLUME of OUT and PLUS, 5 LOOP by its X, 6 DIFFERENCE by its K, X, 7 DIFFERENCE of BEST");
        // Two TIMES, D 9, K 0: OUT is IN. S is 0, 9 times 17; F by 10 is 70, 100.
        ReachFlows flows = Checks.told("t2;d9;r-0 10 1;s0 7 10;");
        // LAWFUL ones let out no less than the least of 7 and 10, and K 9, X 10 just 7: 7 and 7.
        sums(flows, PLUS + 10, PLUS + 10, PLUS + 7, PLUS + 9 * 17, PLUS + 9 * 17, 70 * 9 * 17, 17, 14);
        sums(Checks.told("t2;r-0 0 1;"), PLUS, PLUS, PLUS, PLUS, PLUS, 0, 0, 0);
        // The least OUT at the first, a middle and the last TIME.
        Checks.due("the least at the first", Checks.told("t3;r-0 0 1;s0 1 2 3;").sum(0, 2), PLUS + 1);
        Checks.due("the least in the middle", Checks.told("t3;r-0 0 1;s0 2 1 3;").sum(0, 2), PLUS + 1);
        Checks.due("the least at the last", Checks.told("t3;r-0 0 1;s0 3 2 1;").sum(0, 2), PLUS + 1);
        Checks.due("the least below 0", Checks.told("t2;r-20 10 1;s0 0 21;").sum(0, 2), PLUS - 19);
    }

    private static void sums(ReachFlows flows, long... want) {
        for (int what = 0; what < want.length; what++) {
            Checks.due("sum(0, " + what + ")", flows.sum(0, what), want[what]);
        }
    }

    private static void promise9Unfit() {
        Document.says(9, "(5 to 7: NONE: an IN is below 0 or above 99999).");
        for (int what = 5; what <= 7; what++) {
            Checks.due("sum(0, " + what + ") of IN -1", littleIn(18).sum(0, what), NONE);
            Checks.holds("sum(0, " + what + ") of IN 0", littleIn(19).sum(0, what) >= 0);
            Checks.holds("sum(0, " + what + ") of IN 99999", muchIn(4774).sum(0, what) >= 0);
            Checks.due("sum(0, " + what + ") of IN 100000", muchIn(4775).sum(0, what), NONE);
            Checks.holds("sum(1, " + what + ") beside it", muchIn(4775).sum(1, what) >= 0);
        }
        for (int what = 0; what <= 4; what++) {
            Checks.holds("sum(0, " + what + ") needs none of it", muchIn(4775).sum(0, what) >= PLUS);
        }
    }

    private static void promise9Refused() {
        Document.says(9, "UNKNOWN, OUTSIDE.");
        ReachFlows flows = Checks.told("r-0 0 1;");
        Checks.due("sum(1, 0)", flows.sum(1, 0), UNKNOWN);
        Checks.due("sum(-1, 0)", flows.sum(-1, 0), UNKNOWN);
        Checks.due("sum(0, -1)", flows.sum(0, -1), OUTSIDE);
        Checks.due("sum(0, 8)", flows.sum(0, 8), OUTSIDE);
        Checks.due("sum(1, 8)", flows.sum(1, 8), UNKNOWN);
        Checks.due("sum(0, 8), if it could not be fitted either", muchIn(4775).sum(0, 8), OUTSIDE);
    }

    private static void promise10() {
        Document.says(10, "PEAK of OUT of REACH r and PLUS, had REACH q K k, X x.");
        ReachFlows flows = Checks.told("t4;r-0 0 1;r0 0 0 1;r-0 0 1;s1 0 30;");
        // OUT of 1 would be 0, 10, 13, 4 by K 1, X 0; 0, 0, 1, 1 by K 20, X 0; 0, -28, 5, 5 by K 20, X 10.
        Checks.due("0, were 1 as it is", flows.would(0, 1, 0, 0), PLUS + 30);
        Checks.due("0, were 1 another", flows.would(0, 1, 1, 0), PLUS + 13);
        Checks.due("1, were it another", flows.would(1, 1, 1, 0), PLUS + 13);
        Checks.due("1, were the one below it another", flows.would(1, 0, 1, 0), PLUS + 30);
        Checks.due("0, were one another that does not flow in it", flows.would(0, 2, 20, 10), PLUS + 30);
        Checks.due("2, through which nothing flows", flows.would(2, 2, 20, 10), PLUS);
        Checks.due("by the greatest K, the least X", flows.would(0, 1, 20, 0), PLUS + 1);
        Checks.due("by the greatest K, X", flows.would(0, 1, 20, 10), PLUS + 5);
        Checks.due("by the least K, the greatest X", flows.would(0, 1, 0, 10), PLUS + 30);
        Checks.due("K of 1 is as it was", flows.reachAt(1, 1), 0);
        Checks.due("PEAK is as it was", flows.sum(0, 1), PLUS + 30);
        Checks.due("it is no deed", flows.told(8), 1);
    }

    private static void promise10Refused() {
        Document.says(10, "UNKNOWN, OUTSIDE.");
        ReachFlows flows = Checks.told("r-0 0 1;r-0 0 1;");
        Checks.due("would(2, 0, 0, 0)", flows.would(2, 0, 0, 0), UNKNOWN);
        Checks.due("would(-1, 0, 0, 0)", flows.would(-1, 0, 0, 0), UNKNOWN);
        Checks.due("would(0, 2, 0, 0)", flows.would(0, 2, 0, 0), UNKNOWN);
        Checks.due("would(0, -1, 0, 0)", flows.would(0, -1, 0, 0), UNKNOWN);
        Checks.due("would(1, 1, 21, 0)", flows.would(1, 1, 21, 0), OUTSIDE);
        Checks.due("would(1, 1, -1, 0)", flows.would(1, 1, -1, 0), OUTSIDE);
        Checks.due("would(1, 1, 0, 11)", flows.would(1, 1, 0, 11), OUTSIDE);
        Checks.due("would(1, 1, 0, -1)", flows.would(1, 1, 0, -1), OUTSIDE);
        Checks.due("would(2, 1, 21, 11)", flows.would(2, 1, 21, 11), UNKNOWN);
    }

    private static void promise11() {
        Document.says(11, "T (2 .. 24): what it was (SIDE, SEEN at further TIMES stay, and are there again with them). OUTSIDE.");
        ReachFlows flows = Checks.told("t24;r-0 0 1;r0 0 0 1;");
        flows.side(1, 23, 9999);
        flows.seen(1, 23, 9998);
        flows.side(1, 2, 7);
        Checks.due("times(2)", flows.times(2), 24);
        Checks.due("PEAK of the two TIMES", flows.sum(0, 0), PLUS);
        flows.show(1);
        flows.drift(1);
        Checks.due("times(2) again", flows.times(2), 2);
        Checks.due("times(3)", flows.times(3), 2);
        Checks.due("SIDE at the one TIME more", flows.flow(1, 2, 0), 7);
        Checks.due("times(24)", flows.times(24), 3);
        Checks.due("SIDE is there again", flows.flow(1, 23, 0), 9999);
        Checks.due("SEEN is there again", flows.flow(1, 23, 1), 9998);
        Checks.due("IN below is there again", flows.flow(0, 23, 2), PLUS + 9999);
        Checks.due("times(1)", flows.times(1), OUTSIDE);
        Checks.due("times(25)", flows.times(25), OUTSIDE);
        Checks.due("T", flows.told(0), 24);
        // What came when the TIMES were few has nothing at the further ones, though another had been there.
        flows.times(2);
        flows.take();
        flows.reach(0, 0, 0, 1);
        flows.times(24);
        Checks.dueRow("SIDE of a new one", Checks.row(flows, 1, 0), new long[24]);
        Checks.dueRow("SEEN of a new one", Checks.row(flows, 1, 1), new long[24]);
    }

    private static void promise12() {
        Document.says(12, "D (1 .. 9): what it was. OUTSIDE.");
        ReachFlows flows = Checks.told("r-1 0 1;s0 18;");
        Checks.due("step(9)", flows.step(9), 1);
        // A and B are 90, C is -70, M is 110: 1620 less 1260 by 18.
        Checks.due("OUT by D 9", flows.flow(0, 1, 3), PLUS + (90 * 18 - 70 * 18) / 110);
        Checks.due("step(1)", flows.step(1), 9);
        Checks.due("OUT by D 1", flows.flow(0, 1, 3), PLUS + 12);
        Checks.due("step(1) again", flows.step(1), 1);
        Checks.due("step(0)", flows.step(0), OUTSIDE);
        Checks.due("step(10)", flows.step(10), OUTSIDE);
        Checks.due("D", flows.told(1), 1);
    }
}
