/** Promises 1 to 10, by numbers reckoned by hand from the document. */
public final class RiversTest {
    private static final int NONE = ReachFlows.NONE, UNKNOWN = ReachFlows.UNKNOWN, OUTSIDE = ReachFlows.OUTSIDE;
    private static final int NOT = ReachFlows.NOT, FULL = ReachFlows.FULL;
    private static final long PLUS = ReachFlows.PLUS;

    public static void main(String[] args) {
        promise1New();
        promise2Feed();
        promise3River();
        promise3What();
        promise4Fault();
        promise5Told();
        promise6ReachAt();
        promise6Narrowest();
        promise6Best();
        promise6Fitted();
        promise7Weight();
        promise8Flow();
        promise8Parts();
        promise8Joined();
        promise9Sum();
        promise10Would();
        Checks.end();
    }

    private static void promise1New() {
        ReachFlows flows = new ReachFlows();
        int[] want = {12, 1, 0, 0, 0, 0, 0, NONE, 0, 0};
        for (int what = 0; what < want.length; what++) {
            Checks.due("new: told(" + what + ")", flows.told(what), want[what]);
        }
        Checks.due("new: fault()", flows.fault(), NONE);
        Checks.due("new: reachAt(0, 0)", flows.reachAt(0, 0), UNKNOWN);
        Checks.due("new: flow(0, 0, 0)", flows.flow(0, 0, 0), UNKNOWN);
        Checks.due("new: goBack(0)", flows.goBack(0), NOT);
        Checks.due("new: undo(1)", flows.undo(1), NOT);
    }

    private static void promise2Feed() {
        ReachFlows flows = new ReachFlows();
        Checks.due("feed(0)", flows.feed(0), 1);
        Checks.due("feed(255)", flows.feed(255), 2);
        for (int i = 3; i <= 200; i++) {
            Checks.due("feed, the " + i + "th", flows.feed(' '), i);
        }
        Checks.due("feed, the 201st", flows.feed(' '), FULL);
        Checks.due("feed(256) of a full text", flows.feed(256), OUTSIDE);
        Checks.due("letters of a full text", flows.told(5), 200);
        Checks.due("river() of a full text", flows.river(), -11);
        Checks.due("letters behind river()", flows.told(5), 0);
        Checks.due("feed behind river()", flows.feed(';'), 1);
        ReachFlows blank = new ReachFlows();
        for (int i = 0; i < 200; i++) {
            blank.feed(' ');
        }
        Checks.due("river() of 200 blanks", blank.river(), 0);
    }

    private static void promise3River() {
        ReachFlows flows = Checks.told("t24;d9;r-20 10 4;r0 0 0 1;s1 5 0 9999;");
        Checks.due("T told", flows.told(0), 24);
        Checks.due("D told", flows.told(1), 9);
        Checks.dueRow("features of 0", features(flows, 0), NONE, 20, 10, 4);
        Checks.dueRow("features of 1", features(flows, 1), 0, 0, 0, 1);
        Checks.due("SIDE told", flows.flow(1, 0, 0), 5);
        Checks.due("SIDE told", flows.flow(1, 2, 0), 9999);
        Checks.due("SIDE not told", flows.flow(1, 3, 0), 0);
        flows.side(1, 23, 8);
        flows.seen(0, 3, 7);
        Checks.due("river() of a fault", Checks.tell(flows, "t2;x"), -11);
        Checks.due("T behind a fault", flows.told(0), 24);
        Checks.due("REACHES behind a fault", flows.told(2), 2);
        Checks.due("letters behind a fault", flows.told(5), 0);
        Checks.due("deeds behind a fault", flows.told(8), 3);
        Checks.due("river() anew", Checks.tell(flows, " r - 1 1 1 ; r 0 1 1 1 ; "), 2);
        Checks.due("T is as at first", flows.told(0), 12);
        Checks.due("D is as at first", flows.told(1), 1);
        flows.times(24);
        Checks.due("SIDE beyond T is as at first", flows.flow(1, 23, 0), 0);
        Checks.due("SEEN is as at first", flows.flow(0, 3, 1), 0);
        Checks.due("river() of nothing", flows.river(), 0);
        Checks.due("T behind nothing", flows.told(0), 12);
        Checks.due("river() is a deed", flows.undo(1), 2);
        Checks.due("T undone", flows.told(0), 24);
    }

    private static long[] features(ReachFlows flows, int r) {
        return new long[] {flows.reachAt(r, 0), flows.reachAt(r, 1), flows.reachAt(r, 2), flows.reachAt(r, 3)};
    }

    /** What a text without a fault may look like. */
    private static void promise3What() {
        String[] texts = {
            "", "   ", "t2;", "d9;t24;", "t0012;d 0001;", "r-0 0 1;", "r   -   20   10   4   ;",
            "r-1 1 1;s0 1;r0 1 1 1;s0 2 3;s1 4;", "t2;r-1 1 1;s0 1 2;", "r-1 1 1;s0 9999 0 0000 0001;",
            "r-1 1 4;r-1 1 4;", "r-1 1 1;r0 1 1 1;r1 1 1 1;r2 1 1 1;r3 1 1 1;r0 1 1 3;",
        };
        for (String text : texts) {
            ReachFlows flows = Checks.told(text);
            Checks.due("fault() of '" + text + "'", flows.fault(), NONE);
        }
        ReachFlows again = Checks.told("t5;d2;");
        Checks.due("'t', 'd' in another text", Checks.tell(again, "t6;d3;r-1 1 1;"), 1);
        Checks.due("'t', 'd' in a third text", Checks.tell(again, "d3;t6;"), 0);
        ReachFlows twice = Checks.told("r-1 1 1;s0 1 2 3;s0 9;");
        Checks.due("SIDE told twice", twice.flow(0, 0, 0), 9);
        Checks.due("SIDE told once", twice.flow(0, 1, 0), 2);
    }

    private static void promise4Fault() {
        Checks.faulty("t 6;d 2;r- 4 3;", 1, 14);
        Checks.faulty("t 6;d 2;r- 4 30 1;", 2, 13);
        Checks.faulty("t 6;d 2;t 6;", 3, 8);
        Checks.faulty("t 2;r- 4 3 1;s 0 10 50 30;", 4, 23);
        ReachFlows flows = new ReachFlows();
        Checks.tell(flows, "x");
        flows.undo(1);
        Checks.due("fault() of the latest river()", flows.fault(), 0);
        flows.river();
        Checks.due("fault() behind a river without one", flows.fault(), NONE);
    }

    private static void promise5Told() {
        ReachFlows flows = Checks.told("t5;d2;r-1 10 2;r0 1 0 3;r1 0 0 1;");
        flows.feed('x');
        flows.write(0, 0, 1);
        flows.seed(99);
        int[] want = {5, 2, 3, 6, 1, 1, 1, 0, 1, 99};
        for (int what = 0; what < want.length; what++) {
            Checks.due("told(" + what + ")", flows.told(what), want[what]);
        }
        // By D 2 A and C are 10, -10; 20, 0; 20, -20. By D 1: 0, 0; 10, 10; 10, -10.
        flows.step(1);
        Checks.due("how many are LAWFUL", flows.told(4), 2);
    }

    private static void promise6ReachAt() {
        // 5 and 3 flow in 1, 4 in 2, both in 0.
        ReachFlows flows = Checks.told("r-1 0 1;r0 1 0 1;r0 1 0 1;r1 1 0 1;r2 1 0 1;r3 1 0 1;s0 0 30 0 30;");
        int[] through = {6, 3, 2, 2, 1, 1};
        for (int r = 0; r < through.length; r++) {
            Checks.due("REACHES through " + r, flows.reachAt(r, 7), through[r]);
        }
        Checks.due("BELOW of 5", flows.reachAt(5, 0), 3);
        Checks.due("the first TIME of the PEAK of IN", flows.reachAt(0, 5), 1);
        // OUT: 0, 10, 13 (10 left over), 14 (20), 15 (10), 5.
        Checks.due("the TIME of the PEAK of OUT", flows.reachAt(0, 6), 4);
        Checks.due("the TIME of no PEAK", flows.reachAt(5, 6), 0);
        Checks.due("LAWFUL", flows.reachAt(0, 4), 1);
        flows.step(3);
        Checks.due("LAWFUL no more", flows.reachAt(0, 4), 0);
        Checks.due("A is 0", flows.change(1, 3, 10), 1);
        Checks.due("A is below 0", flows.change(1, 4, 8), 0);
        Checks.due("C is 0", flows.change(1, 2, 5), 1);
        Checks.due("C is below 0", flows.change(1, 2, 6), 0);
    }

    private static ReachFlows seenBy(String text, int... seen) {
        ReachFlows flows = Checks.told(text);
        for (int t = 0; t < seen.length; t++) {
            flows.seen(0, t, seen[t]);
        }
        return flows;
    }

    private static void promise6Narrowest() {
        // S is 0, 8, 10; F is 0, 40 and 8 x, 120 less 6 x: LOOP is 128 x less 560, without its sign.
        ReachFlows flows = seenBy("t3;r-1 4 1;s0 0 10 0;", 0, 2, 6);
        Checks.due("NARROWEST", flows.reachAt(0, 8), 4);
        Checks.due("LOOP by 4", flows.sum(0, 5), 48);
        Checks.due("LEAN", flows.reachAt(0, 9), 1);
        flows.change(0, 1, 0);
        Checks.due("LOOP by 0", flows.sum(0, 5), 560);
        flows.change(0, 1, 10);
        Checks.due("LOOP by 10", flows.sum(0, 5), 720);
        flows.step(9);
        Checks.due("LOOP by 10, D 9", flows.sum(0, 5), 9 * 720);
        Checks.due("LEAN, D 9: 900 / 96", flows.reachAt(0, 9), 9);
        // LOOP is 800 x less 3600, without its sign: x 4 and 5 are alike.
        flows = seenBy("t3;r-1 4 1;s0 0 20 0;", 0, 0, 9);
        Checks.due("NARROWEST of like ones", flows.reachAt(0, 8), 4);
        Checks.due("LOOP of like ones", flows.sum(0, 5), 400);
        // S is 0, 200, 399, F by 0 is 0, 0, 20.
        flows = seenBy("t3;r-1 4 1;s0 100 100 100;", 0, 0, 1);
        Checks.due("NARROWEST of 0", flows.reachAt(0, 8), 0);
        Checks.due("LEAN no more than 20", flows.reachAt(0, 9), 20);
        flows = seenBy("t3;r-1 4 1;s0 10 10 10;", 0, 0, 0);
        Checks.due("LEAN, if all F are alike", flows.reachAt(0, 9), 0);
        // S falls below its first: 0, -1, -2; F by 0 is 0, 20, 0, by 10 it is 0, 10, 0.
        flows = seenBy("t3;r-1 0 1;", 0, 1, 0);
        Checks.due("LOOP of S below 0", flows.sum(0, 5), 40);
        Checks.due("NARROWEST of 10", flows.reachAt(0, 8), 10);
        Checks.due("LEAN of S below 0", flows.reachAt(0, 9), 2);
        // LOOP is 800 x less 20 times 20 times c, without its sign: 0 by x c / 2.
        Checks.due("NARROWEST of 1", seenBy("t3;r-1 4 1;s0 0 20 0;", 0, 0, 2).reachAt(0, 8), 1);
        Checks.due("NARROWEST of 2", seenBy("t3;r-1 4 1;s0 0 20 0;", 0, 0, 4).reachAt(0, 8), 2);
        // S is 0, 10; F by 0 is 200, 0; by 10 it is 200, 100: LOOP 2000 in each case.
        flows = seenBy("t2;r-1 10 1;s0 10 10;", 10, 0);
        Checks.due("LOOP of two TIMES", flows.sum(0, 5), 2000);
        Checks.due("LEAN of two TIMES: 100 / 200", flows.reachAt(0, 9), 0);
        // S is 0, 5; F by 0 is 20, 20.
        flows = seenBy("t2;d5;r-1 0 1;s0 3 0;", 1, 1);
        Checks.due("S grows by D", flows.sum(0, 5), 20 * 5);
        // S is 0, 80, F by 0 is 20, 40: LOOP is 20 times 80 and more by greater x.
        flows = seenBy("t2;r-1 0 1;s0 41 42;", 1, 2);
        Checks.due("NARROWEST of F above 0", flows.reachAt(0, 8), 0);
        Checks.due("LEAN of F above 0: 800 / 20, no more than 20", flows.reachAt(0, 9), 20);
        flows = seenBy("t2;r-1 0 1;s0 4 5;", 1, 3);
        Checks.due("LEAN of F above 0: 50 / 40", flows.reachAt(0, 9), 1);
    }

    private static void promise6Best() {
        ReachFlows flows = Checks.told("r-1 0 1;");
        Checks.due("k of BEST of nothing", flows.reachAt(0, 10), 1);
        Checks.due("x of BEST of nothing", flows.reachAt(0, 11), 0);
        flows.step(9);
        Checks.due("k of BEST, D 9", flows.reachAt(0, 10), 5);
        Checks.due("x of BEST, D 9", flows.reachAt(0, 11), 0);
        Checks.tell(flows, "r-3 2 2;s0 10 500 80 900 33 0 7;");
        flows.show(0);
        flows.change(0, 20, 10);
        Checks.due("k of BEST", flows.reachAt(0, 10), 3);
        Checks.due("x of BEST", flows.reachAt(0, 11), 2);
        Checks.due("DIFFERENCE of BEST", flows.sum(0, 7), 0);
        Checks.holds("DIFFERENCE by its K, X", flows.sum(0, 6) > 0);
        Checks.due("nothing changes by it", flows.reachAt(0, 1), 20);
        Checks.tell(flows, "r-1 10 1;s0 10 500 80 900 33 0 7;");
        flows.show(0);
        Checks.due("the least k of BEST", flows.reachAt(0, 10), 1);
        Checks.due("the greatest x of BEST", flows.reachAt(0, 11), 10);
        Checks.tell(flows, "r-20 0 1;s0 10 500 80 900 33 0 7;");
        flows.show(0);
        Checks.due("the greatest k of BEST", flows.reachAt(0, 10), 20);
        // K 4, X 3 is not LAWFUL, so that it is not found again.
        Checks.tell(flows, "r-4 3 1;s0 900 800 700 500 300 100 100 100;");
        flows.show(0);
        Checks.due("DIFFERENCE by unlawful ones", flows.sum(0, 6), 0);
        Checks.holds("DIFFERENCE of BEST is of lawful ones", flows.sum(0, 7) > 0);
    }

    private static void promise6Fitted() {
        // OUT of 1 is 0, then 21 times -190 / 210.
        ReachFlows flows = Checks.told("t3;r-1 0 1;r0 20 10 1;s1 0 21;s0 0 18;");
        Checks.due("an IN is below 0", flows.flow(0, 1, 2), PLUS - 1);
        fits(flows, 0, false);
        fits(flows, 1, true);
        flows.side(0, 1, 19);
        Checks.due("an IN is 0", flows.flow(0, 1, 2), PLUS);
        fits(flows, 0, true);
        // OUT of each of five is 9999 times 400 / 210 at TIME 1: 19045.
        flows = Checks.told("t2;r-1 0 1;r0 20 10 1;r0 20 10 1;r0 20 10 1;r0 20 10 1;r0 20 10 1;"
            + "s1 9999;s2 9999;s3 9999;s4 9999;s5 9999;s0 0 4774;");
        Checks.due("an IN is 99999", flows.flow(0, 1, 2), PLUS + 99999);
        fits(flows, 0, true);
        flows.side(0, 1, 4775);
        fits(flows, 0, false);
        flows.times(3);
        flows.side(0, 2, 0);
        flows.side(0, 1, 0);
        fits(flows, 0, true);
    }

    private static void fits(ReachFlows flows, int r, boolean so) {
        for (int what = 8; what <= 11; what++) {
            Checks.holds("reachAt(" + r + ", " + what + ") fits: " + so, flows.reachAt(r, what) == NONE != so);
        }
        for (int what = 5; what <= 7; what++) {
            Checks.holds("sum(" + r + ", " + what + ") fits: " + so, flows.sum(r, what) == NONE != so);
        }
    }

    private static void promise7Weight() {
        ReachFlows flows = Checks.told("d3;r-7 4 1;r-20 10 1;r-0 10 1;");
        Checks.dueRow("weights of 0", weights(flows, 0), 1002, 58, 1082, 142);
        Checks.dueRow("weights of 1", weights(flows, 1), 830, 230, 1170, 230);
        Checks.dueRow("weights of 2", weights(flows, 2), 1030, 30, 970, 30);
    }

    private static long[] weights(ReachFlows flows, int r) {
        return new long[] {flows.weight(r, 0), flows.weight(r, 1), flows.weight(r, 2), flows.weight(r, 3)};
    }

    private static void promise8Flow() {
        // A, B, C are 10, M is 30.
        ReachFlows flows = Checks.told("t8;r-1 0 1;s0 30;");
        flows.seen(0, 7, 5);
        Checks.dueRow("SIDE", Checks.row(flows, 0, 0), 30, 0, 0, 0, 0, 0, 0, 0);
        Checks.dueRow("SEEN", Checks.row(flows, 0, 1), 0, 0, 0, 0, 0, 0, 0, 5);
        Checks.dueRow("IN", Checks.row(flows, 0, 2), 30, 0, 0, 0, 0, 0, 0, 0);
        Checks.dueRow("OUT", Checks.row(flows, 0, 3), 30, 20, 6, 2, 1, 0, 0, 0);
        Checks.dueRow("STORED", Checks.row(flows, 0, 4), 600, 400, 140, 60, 30, 20, 20, 20);
        // A is -190, B 210, C 190, M 210: cut to the lesser whole number below 0, too.
        flows = Checks.told("t4;r-20 10 1;s0 0 1;");
        Checks.dueRow("OUT below 0", Checks.row(flows, 0, 3), 0, -1, 0, 0);
        // 200 times IN, 200 times OUT, REST: 20; 40; 40.
        Checks.dueRow("STORED of REST", Checks.row(flows, 0, 4), 0, 200 - 200 + 20, 40, 40);
        // K 0: OUT is IN.
        flows = Checks.told("t4;d7;r-0 9 3;s0 4 9999 0 5;");
        Checks.dueRow("OUT by K 0", Checks.row(flows, 0, 3), 4, 9999, 0, 5);
        Checks.dueRow("STORED by K 0", Checks.row(flows, 0, 4), 0, 0, 0, 0);
    }

    private static void promise8Parts() {
        // OUT of the first PART: 30, 20, 6, 2, 1, 0; REST of the second: 0, 20, 0, 20, 10, 0.
        ReachFlows flows = Checks.told("t6;r-1 0 2;s0 30;");
        Checks.dueRow("OUT of two PARTS", Checks.row(flows, 0, 3), 30, 26, 18, 8, 4, 2);
        Checks.dueRow("STORED of two PARTS", Checks.row(flows, 0, 4),
            600 + 600, 400 + 520 + 20, 140 + 360, 60 + 160 + 20, 30 + 80 + 10, 20 + 40);
    }

    private static void promise8Joined() {
        ReachFlows flows = Checks.told("t4;r-1 0 1;r0 1 0 1;r0 0 0 1;r-1 0 1;s1 30;s2 1 2 3 4;s0 100 0 7;s3 9999 9999;");
        Checks.dueRow("IN of three", Checks.row(flows, 0, 2), 131, 22, 16, 6);
        Checks.dueRow("IN of its own", Checks.row(flows, 3, 2), 9999, 9999, 0, 0);
    }

    private static void promise9Sum() {
        ReachFlows flows = Checks.told("t8;d1;r-1 0 1;s0 30;");
        Checks.due("PEAK of IN", flows.sum(0, 0), PLUS + 30);
        Checks.due("PEAK of OUT", flows.sum(0, 1), PLUS + 30);
        Checks.due("the least OUT", flows.sum(0, 2), PLUS);
        Checks.due("VOLUME of IN", flows.sum(0, 3), PLUS + 30);
        Checks.due("VOLUME of OUT", flows.sum(0, 4), PLUS + 88);
        Checks.due("DIFFERENCE", flows.sum(0, 6), 59);
        flows.seen(0, 0, 40);
        Checks.due("DIFFERENCE on both sides", flows.sum(0, 6), 10 + 29);
        flows = Checks.told("t3;d5;r-20 10 1;s0 1 2 3;");
        Checks.due("VOLUME of IN, D 5", flows.sum(0, 3), PLUS + 40);
        flows = Checks.told("t4;r-20 10 1;s0 0 1;");
        Checks.due("the least OUT below 0", flows.sum(0, 2), PLUS - 1);
        Checks.due("PEAK of OUT of 0", flows.sum(0, 1), PLUS);
        flows = Checks.told("t2;r-20 10 1;r0 20 10 1;s1 0 21;");
        Checks.due("VOLUME of IN below 0", flows.sum(0, 3), PLUS - 19);
        flows = Checks.told("t3;r-0 0 1;s0 7 8 9;");
        Checks.due("the least OUT at first", flows.sum(0, 2), PLUS + 7);
        flows.side(0, 2, 5);
        Checks.due("the least OUT at last", flows.sum(0, 2), PLUS + 5);
    }

    private static void promise10Would() {
        ReachFlows flows = Checks.told("t4;r-0 0 1;r0 0 0 1;r-0 0 1;s1 0 30;");
        Checks.due("as it is", flows.would(0, 1, 0, 0), PLUS + 30);
        // OUT of 1 would be 0, 10, 13, 4.
        Checks.due("were 1 another", flows.would(0, 1, 1, 0), PLUS + 13);
        Checks.due("were 0 another", flows.would(0, 0, 1, 0), PLUS + 13);
        Checks.due("1, were 0 another", flows.would(1, 0, 1, 0), PLUS + 30);
        Checks.due("0, were 2 another", flows.would(0, 2, 20, 10), PLUS + 30);
        Checks.due("nothing changes by it", flows.sum(0, 1), PLUS + 30);
        Checks.due("it is no deed", flows.told(8), 1);
    }
}
