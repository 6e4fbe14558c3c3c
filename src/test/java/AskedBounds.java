/** The bounds of section 3: what is asked, the book, draws, what is undone, images. */
final class AskedBounds {
    private static final int NONE = ReachFlows.NONE, UNKNOWN = ReachFlows.UNKNOWN, OUTSIDE = ReachFlows.OUTSIDE;
    private static final int NOT = ReachFlows.NOT, FULL = ReachFlows.FULL;
    private static final long PLUS = ReachFlows.PLUS;

    private AskedBounds() {
    }

    static void run() {
        nothingChanges();
        peak();
        volume();
        nothingIsLost();
        loopLines();
        loopSum();
        narrowest();
        lean();
        difference();
        best();
        book();
        wrong();
        seedAndDraw();
        drawsWithoutReaches();
        drawsOfWhat();
        whatIsADeed();
        sinceTheImage();
        undoneIsAll();
        images();
    }

    private static void says(String words) {
        Document.says(Document.TERMS, words);
    }

    /** A river as the text tells it, with SEEN of REACH 0. */
    private static ReachFlows seenBy(String text, int... seen) {
        ReachFlows flows = Checks.told(text);
        for (int t = 0; t < seen.length; t++) {
            flows.seen(0, t, seen[t]);
        }
        return flows;
    }

    private static void nothingChanges() {
        says("ASKED, nothing changes by it.");
        askedBehindDeed();
        ReachFlows flows = seenBy("t4;d2;r-1 2 2;r0 20 10 2;s0 9 8 7;s1 0 9999;", 5, 6, 7, 8);
        flows.feed('t');
        flows.write(0, 0, 1);
        String before = Checks.picture(flows);
        for (int r = 0; r < 2; r++) {
            for (int what = 0; what < 12; what++) {
                flows.reachAt(r, what);
                flows.weight(r, what);
                flows.sum(r, what);
                flows.told(what);
            }
            flows.would(r, 1 - r, 0, 0);
            flows.would(r, r, 20, 10);
        }
        flows.fault();
        Checks.holds("all is as it was", Checks.picture(flows).equals(before));
        Checks.due("letters", flows.told(5), 1);
        Checks.due("entries", flows.told(6), 1);
        Checks.due("deeds", flows.told(8), 5);
        Checks.due("THE SEED", flows.told(9), 0);
    }

    private interface Question {
        long of(ReachFlows flows);
    }

    /** Nor does what was asked for ahead of a deed stay behind it. */
    private static void askedBehindDeed() {
        // SIDE 0, 0, 30, so OUT is 0, 0, 10; SEEN 1, 0, 0. S is 0, -1, 29; F is 20 less x, 0, 30 x: LOOP is 31 x less 20.
        behindDeed("TIME of the PEAK of IN", 2, flows -> flows.reachAt(0, 5));
        behindDeed("TIME of the PEAK of OUT", 2, flows -> flows.reachAt(0, 6));
        behindDeed("NARROWEST", 1, flows -> flows.reachAt(0, 8));
        behindDeed("LEAN: 300 / 30", 10, flows -> flows.reachAt(0, 9));
        behindDeed("IN", PLUS + 30, flows -> flows.flow(0, 2, 2));
        behindDeed("OUT", PLUS + 10, flows -> flows.flow(0, 2, 3));
        behindDeed("STORED", PLUS + 200, flows -> flows.flow(0, 2, 4));
        behindDeed("PEAK of IN", PLUS + 30, flows -> flows.sum(0, 0));
        behindDeed("PEAK of OUT", PLUS + 10, flows -> flows.sum(0, 1));
        behindDeed("the least OUT", PLUS, flows -> flows.sum(0, 2));
        behindDeed("VOLUME of IN", PLUS + 30, flows -> flows.sum(0, 3));
        behindDeed("VOLUME of OUT", PLUS + 10, flows -> flows.sum(0, 4));
        behindDeed("LOOP", 20, flows -> flows.sum(0, 5));
        behindDeed("DIFFERENCE", 11, flows -> flows.sum(0, 6));
        behindDeed("PEAK that would be", PLUS + 10, flows -> flows.would(0, 0, 1, 0));
        behindDeed("WRONG", NONE, flows -> flows.told(7));
    }

    private static void behindDeed(String name, long want, Question question) {
        ReachFlows flows = seenBy("t3;r-1 0 1;s0 9;", 1);
        flows.write(0, 2, 10);
        question.of(flows);
        flows.would(0, 0, 20, 10);
        flows.side(0, 0, 0);
        flows.side(0, 2, 30);
        Checks.due(name + ", asked first behind a deed", question.of(flows), want);
    }

    private static void peak() {
        says("PEAK: the greatest OUT (IN) of all TIMES, and the first TIME at which it is so.");
        peaks("t4;r-0 0 1;", 0, 0);
        peaks("t4;r-0 0 1;s0 5 5 5 5;", 5, 0);
        peaks("t4;r-0 0 1;s0 4 5 5 4;", 5, 1);
        peaks("t4;r-0 0 1;s0 4 5 4 5;", 5, 1);
        peaks("t4;r-0 0 1;s0 4 3 3 5;", 5, 3);
        peaks("t2;r-0 0 1;s0 9998 9999;", 9999, 1);
        peaks("t2;r-0 0 1;s0 9999 9998;", 9999, 0);
        // OUT falls below 0 behind TIME 0, so that 0 is its PEAK, while that of IN is later.
        ReachFlows flows = Checks.told("t3;r-20 10 1;s0 0 9999 9999;");
        Checks.due("PEAK of OUT below 0", flows.sum(0, 1), PLUS);
        Checks.due("TIME of the PEAK of OUT below 0", flows.reachAt(0, 6), 0);
        Checks.due("TIME of the PEAK of IN", flows.reachAt(0, 5), 1);
        // What was a PEAK at a TIME that there is no more is none, though it was asked for.
        flows = Checks.told("t3;r-0 0 1;s0 2 1 9;");
        Checks.due("PEAK of IN at the last TIME", flows.sum(0, 0), PLUS + 9);
        Checks.due("PEAK of OUT at the last TIME", flows.sum(0, 1), PLUS + 9);
        flows.times(2);
        Checks.due("TIME of the PEAK of IN, if the last is no more", flows.reachAt(0, 5), 0);
        Checks.due("TIME of the PEAK of OUT, if the last is no more", flows.reachAt(0, 6), 0);
        Checks.due("PEAK of IN, if the last is no more", flows.sum(0, 0), PLUS + 2);
        Checks.due("PEAK of OUT, if the last is no more", flows.sum(0, 1), PLUS + 2);
    }

    private static void peaks(String text, long peak, int time) {
        ReachFlows flows = Checks.told(text);
        Checks.due("PEAK of IN of '" + text + "'", flows.sum(0, 0), PLUS + peak);
        Checks.due("PEAK of OUT of '" + text + "'", flows.sum(0, 1), PLUS + peak);
        Checks.due("TIME of the PEAK of IN of '" + text + "'", flows.reachAt(0, 5), time);
        Checks.due("TIME of the PEAK of OUT of '" + text + "'", flows.reachAt(0, 6), time);
    }

    private static void volume() {
        says("VOLUME of IN (OUT): the sum, for all TIMES but the last, of D times it then and at the next TIME.");
        ReachFlows flows = Checks.told("t2;d9;r-0 0 1;s0 3 4;");
        Checks.due("VOLUME of IN of two TIMES", flows.sum(0, 3), PLUS + 9 * 7);
        Checks.due("VOLUME of OUT of two TIMES", flows.sum(0, 4), PLUS + 9 * 7);
        flows = Checks.told("t3;d1;r-0 0 1;s0 3 4 50;");
        Checks.due("VOLUME of IN of three TIMES", flows.sum(0, 3), PLUS + 3 + 4 + 4 + 50);
        Checks.due("VOLUME of OUT of three TIMES", flows.sum(0, 4), PLUS + 3 + 4 + 4 + 50);
        Checks.due("VOLUME of nothing", Checks.told("r-20 10 4;").sum(0, 4), PLUS);
        // OUT is 0, -19; that is IN below.
        flows = Checks.told("t2;d1;r-0 0 1;r0 20 10 1;s1 0 21;");
        Checks.due("VOLUME of OUT below 0", flows.sum(1, 4), PLUS - 19);
        Checks.due("VOLUME of IN below 0", flows.sum(0, 3), PLUS - 19);
        flows = Checks.told("t24;d9;r-0 0 1;");
        for (int t = 0; t < 24; t++) {
            flows.side(0, t, 9999);
        }
        Checks.due("VOLUME of the most TIMES", flows.sum(0, 3), PLUS + 23 * 9 * 2 * 9999L);
    }

    private static void nothingIsLost() {
        says("(10 times VOLUME of IN less that of OUT is what STORED grows from TIME 0 to the last one.)");
        for (String text : new String[] {"t2;r-20 10 4;r0 20 10 4;", "t24;r-20 10 4;r0 20 10 4;", "t24;d9;r-0 10 4;r0 20 0 4;",
            "t24;d9;r-20 9 4;r0 19 10 4;", "t23;d7;r-13 7 1;r0 11 3 4;r0 17 9 3;"}) {
            ReachFlows flows = Checks.told(text);
            int last = flows.told(0) - 1;
            for (int t = 0; t <= last; t += 2) {
                flows.side(1, t, 9999);
                flows.side(0, last - t, 9999 - t);
            }
            for (int r = 0; r < flows.told(2); r++) {
                long grown = flows.flow(r, last, 4) - flows.flow(r, 0, 4);
                Checks.due("STORED of " + r + " of '" + text + "' grows", grown, 10 * (flows.sum(r, 3) - flows.sum(r, 4)));
            }
        }
    }

    private static void loopLines() {
        says("LOOP of a REACH by x (0 .. 10): S is 0 at TIME 0, and at each next TIME more by D times IN then and at the TIME "
            + "ahead, and less by D times SEEN then and at the TIME ahead; F is x times IN and (20 less x) times SEEN.");
        // Two TIMES: LOOP is F at TIME 0 times S at TIME 1, which is D times 3 and 4, less 1 and 5.
        for (int x = 0; x <= 10; x++) {
            for (int d = 1; d <= 9; d += 8) {
                ReachFlows flows = seenBy("t2;d" + d + ";r-0 " + x + " 1;s0 3 4;", 1, 5);
                Checks.due("LOOP by " + x + ", D " + d, flows.sum(0, 5), (x * 3L + (20 - x)) * d);
            }
        }
        // S falls below 0 and comes back: 0, -9, -18, -9; F by 0 is 0, 180, 0, 0: 180 times -18.
        Checks.due("LOOP of S below 0", seenBy("t4;r-0 0 1;s0 0 0 0 9;", 0, 9, 0, 0).sum(0, 5), 180 * 18);
        // All that may come in beside: F by 10 at TIME 0 is 10 times 59994, S at TIME 1 is 18 times 59994.
        ReachFlows most = Checks.told("t2;d9;r-0 10 1;r0 0 0 1;r0 0 0 1;r0 0 0 1;r0 0 0 1;r0 0 0 1;");
        for (int r = 0; r < 6; r++) {
            most.side(r, 0, 9999);
            most.side(r, 1, 9999);
        }
        Checks.due("LOOP of six times 9999", most.sum(0, 5), 10L * 59994 * 9 * 2 * 59994);
    }

    private static void loopSum() {
        says("The sum, for all TIMES but the last, of F times S at the next TIME, less F at the next TIME times S then, "
            + "without its sign.");
        // S is 0, 8, 10; F by 0 is 0, 40, 120: 0, and 400 less 960. F by 10 is 0, 120, 60: 0, and 1200 less 480.
        Checks.due("LOOP of a sum below 0", seenBy("t3;r-1 0 1;s0 0 10 0;", 0, 2, 6).sum(0, 5), 560);
        Checks.due("LOOP of a sum above 0", seenBy("t3;r-1 10 1;s0 0 10 0;", 0, 2, 6).sum(0, 5), 720);
        Checks.due("LOOP of nothing", Checks.told("t2;r-1 10 1;").sum(0, 5), 0);
        // S is 0, 3, 6, F by 0 is 20, 20, 60: 60, and 120 less 180, summed with their signs.
        Checks.due("LOOP of a sum of 0", seenBy("t3;r-1 0 1;s0 5 0 7;", 1, 1, 3).sum(0, 5), 0);
    }

    private static void narrowest() {
        says("NARROWEST: the x with the least LOOP, of like ones the least.");
        // S is 0, 20, 40 less c; F is 0, 20 x, (20 less x) c: LOOP is 800 x less 400 c, without its sign.
        for (int c = 0; c <= 20; c++) {
            Checks.due("NARROWEST by " + c, seenBy("t3;r-1 4 1;s0 0 20 0;", 0, 0, c).reachAt(0, 8), c / 2);
        }
        Checks.due("NARROWEST by more than 10", seenBy("t3;r-1 4 1;s0 0 20 0;", 0, 0, 30).reachAt(0, 8), 10);
        Checks.due("NARROWEST, if all are alike", Checks.told("t2;r-1 4 1;").reachAt(0, 8), 0);
    }

    private static void lean() {
        says("LEAN: 10 times the greatest S less the least, / the greatest F less the least, by the NARROWEST x, cut; "
            + "no more than 20; 0, if all F are alike.");
        // Two TIMES, SEEN 1 and 2: S is 0 and what comes in less 3; F by 0, the NARROWEST, is 20, 40.
        leans(20, "t2;r-1 0 1;s0 21 22;", 1, 2);
        leans(20, "t2;r-1 0 1;s0 9999 9999;", 1, 2);
        // 410 / 20 is 20 still, 390 / 20 is 19.
        leans(20, "t2;r-1 0 1;s0 22 22;", 1, 2);
        leans(19, "t2;r-1 0 1;s0 21 21;", 1, 2);
        leans(0, "t2;r-1 0 1;s0 2 2;", 1, 2);
        leans(1, "t2;r-1 0 1;s0 3 3;", 1, 2);
        // F alike: of no SEEN by x 0; of nothing at all.
        leans(0, "t3;r-1 0 1;s0 9999 9999 9999;", 0, 0, 0);
        leans(0, "t3;r-1 0 1;");
        leans(0, "t2;r-1 0 1;s0 9 9;", 7, 7);
        // S falls: 0, -1, -2; F by 10 is 0, 10, 0.
        leans(2, "t3;r-1 0 1;", 0, 1, 0);
        // F falls: S is 0, 4, F by 0 is 40, 20.
        leans(2, "t2;r-1 0 1;s0 3 4;", 2, 1);
        // All F but one alike: LOOP is 185 x less 100, so that x is 1; S is 0, 10, 1, F is 95, 95, 96.
        leans(20, "t3;r-1 0 1;s0 19 0 1;", 4, 5, 5);
        // S is 0, 36 by D 9; F by 0 is 20, 40.
        leans(18, "t2;d9;r-1 0 1;s0 3 4;", 1, 2);
    }

    private static void leans(int want, String text, int... seen) {
        Checks.due("LEAN of '" + text + "'", seenBy(text, seen).reachAt(0, 9), want);
    }

    private static void difference() {
        says("DIFFERENCE of a REACH by k, x: the sum over all TIMES of how far OUT would be from SEEN, had it K k, X x.");
        // K 0: OUT is IN. The first and the last TIME count, OUT above SEEN and below it.
        Checks.due("DIFFERENCE", seenBy("t3;r-0 0 1;s0 10 0 7;", 4, 100, 8).sum(0, 6), 6 + 100 + 1);
        Checks.due("DIFFERENCE of like ones", seenBy("t3;r-0 0 1;s0 10 0 7;", 10, 0, 7).sum(0, 6), 0);
        Checks.due("DIFFERENCE of the greatest SEEN", seenBy("t2;r-0 0 1;", 9999, 9999).sum(0, 6), 2 * 9999);
        // OUT is 0, -1, 0, 0.
        Checks.due("DIFFERENCE of OUT below 0", seenBy("t4;r-20 10 1;s0 0 1;", 0, 9999, 0, 0).sum(0, 6), 10000);
        // Its PARTS count: OUT of four is 27, 26, 25, 21.
        Checks.due("DIFFERENCE of four PARTS", seenBy("t4;r-1 0 4;s0 27;").sum(0, 6), 27 + 26 + 25 + 21);
        // SEEN at a TIME that there is no more does not count.
        ReachFlows flows = seenBy("t3;r-0 0 1;s0 1 2 3;", 1, 2, 9);
        Checks.due("DIFFERENCE at the last TIME", flows.sum(0, 6), 6);
        flows.times(2);
        Checks.due("DIFFERENCE, if the last is no more", flows.sum(0, 6), 0);
    }

    private static void best() {
        says("BEST: k (0 .. 20), x (0 .. 10) that are LAWFUL (as D is) with the least DIFFERENCE; of like ones the least k, then x.");
        // Nothing comes in: all are alike. The least k with 20 k at least 10 D.
        for (int d = 1; d <= 9; d++) {
            ReachFlows flows = Checks.told("d" + d + ";r-0 0 1;");
            Checks.due("k of BEST of nothing, D " + d, flows.reachAt(0, 10), (d + 1) / 2);
            Checks.due("x of BEST of nothing, D " + d, flows.reachAt(0, 11), 0);
            Checks.due("DIFFERENCE of BEST of nothing, D " + d, flows.sum(0, 7), 0);
        }
        // What such a REACH lets out finds it again: the least and the greatest k and x that are LAWFUL.
        findsAgain(1, 1, 0);
        findsAgain(1, 1, 10);
        findsAgain(1, 20, 0);
        findsAgain(9, 9, 10);
        findsAgain(9, 5, 2);
        findsAgain(9, 20, 4);
        // K 0 lets IN through and fits wholly, but is not LAWFUL by any D.
        ReachFlows flows = seenBy("t3;r-0 0 1;s0 10 20 0;", 10, 20, 0);
        Checks.due("DIFFERENCE by K 0", flows.sum(0, 6), 0);
        Checks.holds("k of BEST is not 0", flows.reachAt(0, 10) > 0);
        Checks.holds("DIFFERENCE of BEST is not 0", flows.sum(0, 7) > 0);
    }

    private static void findsAgain(int d, int k, int x) {
        ReachFlows flows = Checks.told("t24;d" + d + ";r-" + k + " " + x + " 1;s0 0 9999 0 0 5000 9999 1 77 9000;");
        flows.show(0);
        flows.change(0, 0, 0);
        Checks.due("k of BEST of D " + d + ", K " + k + ", X " + x, flows.reachAt(0, 10), k);
        Checks.due("x of BEST of D " + d + ", K " + k + ", X " + x, flows.reachAt(0, 11), x);
        Checks.due("DIFFERENCE of BEST of D " + d + ", K " + k + ", X " + x, flows.sum(0, 7), 0);
    }

    private static void book() {
        says("THE BOOK (20 at most) tells OUT of a REACH at a TIME:");
        ReachFlows flows = Checks.told("t2;r-0 0 1;s0 5 6;");
        Checks.due("entries at first", flows.told(6), 0);
        for (int i = 1; i <= 20; i++) {
            Checks.due("entry " + i, flows.write(0, i % 2, 5 + i % 2), i);
        }
        Checks.due("entry 21", flows.write(0, 0, 5), FULL);
        Checks.due("entries", flows.told(6), 20);
        Checks.due("none is WRONG", flows.told(7), NONE);
        flows.tear();
        Checks.due("there is room again", flows.write(0, 0, 5), 1);
    }

    private static void wrong() {
        says("WRONG: the first that is otherwise now (a REACH, a TIME that there is no more: it is, too); NONE.");
        ReachFlows flows = Checks.told("t3;r-0 0 1;r-0 0 1;s0 5 6 7;");
        Checks.due("WRONG of an empty book", flows.told(7), NONE);
        for (int i = 0; i < 19; i++) {
            flows.write(0, 0, 5);
        }
        flows.write(1, 2, 1);
        Checks.due("the last of 20 is WRONG", flows.told(7), 19);
        flows.side(1, 2, 1);
        Checks.due("it is WRONG no more", flows.told(7), NONE);
        flows.times(2);
        Checks.due("a TIME that there is no more", flows.told(7), 19);
        flows.times(3);
        Checks.due("the TIME is there again", flows.told(7), NONE);
        flows.take();
        Checks.due("a REACH that there is no more", flows.told(7), 19);
        flows.side(0, 0, 4);
        Checks.due("the first of all is WRONG", flows.told(7), 0);
        flows.undo(2);
        Checks.due("both are there again", flows.told(7), NONE);
        // A REACH of nothing that is gone is WRONG, though 0 was written.
        flows.tear();
        flows.write(1, 0, 0);
        Checks.due("OUT 0", flows.told(7), NONE);
        flows.river();
        Checks.due("OUT 0 of none", flows.told(7), 0);
    }

    private static void seedAndDraw() {
        says("BY DRAWS: THE SEED (0 at first: each DRAW it becomes it times 1103515245 and 12345, left over by 2 to the 31; "
            + "the DRAW of n is it / 65536, left over by n):");
        Checks.due("THE SEED at first", new ReachFlows().told(9), 0);
        // Of 6 REACHES, T 24: 12345 is DRAW 0, 1406932606 is 21468, 654583775 is 9988.
        draws(0, 654583775, 0, 21468 % 24, 9988 % 10);
        // The greatest SEED wraps around: 1043980748 is DRAW 15929, 288979989 is 4409, 646343466 is 9862.
        draws(2147483647, 646343466, 15929 % 6, 4409 % 24, 9862 % 10);
        // Each of these becomes 0 or the greatest by the first DRAW: DRAW 0 or 32767.
        draws(2088216195, 1406932606, 0, 12345 / 65536, 21468 % 10);
        draws(230538014, 288979989, 32767 % 6, 15929 % 24, 4409 % 10);
    }

    private static void draws(int seed, int then, int r, int t, int draw) {
        ReachFlows flows = Checks.told("t24;r-0 0 1;r-0 0 1;r-0 0 1;r-0 0 1;r-0 0 1;r-0 0 1;");
        for (int each = 0; each < 6; each++) {
            flows.side(each, t, 5);
        }
        flows.seed(seed);
        Checks.due("THE SEED behind DRAWS from " + seed, flows.drift(1), then);
        for (int each = 0; each < 6; each++) {
            Checks.due("SIDE of " + each + " behind DRAWS from " + seed, flows.flow(each, t, 0), each == r ? 11 * draw : 5);
        }
    }

    private static void drawsWithoutReaches() {
        says("n times (without REACHES nothing is done, and that is no deed):");
        ReachFlows flows = new ReachFlows();
        flows.seed(7);
        Checks.due("drift(1) without REACHES", flows.drift(1), 7);
        Checks.due("drift(20) without REACHES", flows.drift(20), 7);
        Checks.due("drift(0) without REACHES", flows.drift(0), OUTSIDE);
        Checks.due("drift(21) without REACHES", flows.drift(21), OUTSIDE);
        Checks.due("THE SEED", flows.told(9), 7);
        Checks.due("deeds", flows.told(8), 0);
        flows.reach(NONE, 0, 0, 1);
        flows.take();
        Checks.due("drift(1), if the last is gone", flows.drift(1), 7);
        Checks.due("deeds", flows.told(8), 2);
        // 60 DRAWS from 0.
        ReachFlows most = Checks.told("r-0 0 1;");
        Checks.due("drift(20)", most.drift(20), 321843028);
    }

    private static void drawsOfWhat() {
        says("DRAWS of how many REACHES there are, of T, of 10: this SIDE becomes 11 times the last DRAW.");
        // From 1083 the last of 6, of 24, of 10; from 2448 the first of each.
        draws(1083, 988903830, 5, 23, 9);
        draws(2448, 1499507375, 0, 0, 0);
        // One REACH and two TIMES are all that can be drawn: 0; 1 (288979989); 2.
        ReachFlows flows = Checks.told("t2;r-0 0 1;s0 7 7;");
        flows.seed(2147483647);
        flows.drift(1);
        Checks.dueRow("SIDE", Checks.row(flows, 0, 0), 7, 22);
    }

    private static void whatIsADeed() {
        says("UNDONE: the latest deeds (river(), not with a FAULT; times(), step(), reach(), change(), side(), seen(), show(), "
            + "take(), each time BY DRAWS: all that were not refused, be it that they changed nothing)");
        ReachFlows flows = new ReachFlows();
        int deeds = 0;
        flows.river();
        deeds(flows, "river() that changed nothing", ++deeds);
        Checks.tell(flows, "x");
        deeds(flows, "river() with a FAULT", deeds);
        flows.times(12);
        deeds(flows, "times() that changed nothing", ++deeds);
        flows.step(1);
        deeds(flows, "step() that changed nothing", ++deeds);
        flows.reach(NONE, 0, 0, 1);
        deeds(flows, "reach()", ++deeds);
        flows.change(0, 0, 0);
        deeds(flows, "change() that changed nothing", ++deeds);
        flows.side(0, 0, 0);
        deeds(flows, "side() that changed nothing", ++deeds);
        flows.seen(0, 0, 0);
        deeds(flows, "seen() that changed nothing", ++deeds);
        flows.show(0);
        deeds(flows, "show() that changed nothing", ++deeds);
        flows.drift(3);
        deeds += 3;
        deeds(flows, "three times BY DRAWS", deeds);
        flows.take();
        deeds(flows, "take()", ++deeds);
        flows.take();
        flows.reach(0, 0, 0, 1);
        flows.times(1);
        deeds(flows, "what is refused", deeds);
        flows.feed(' ');
        flows.fault();
        flows.told(0);
        flows.seed(5);
        flows.tear();
        deeds(flows, "what is none", deeds);
        flows.undo(1);
        deeds(flows, "undo()", --deeds);
        flows.write(0, 0, 0);
        deeds(flows, "write()", deeds);
    }

    private static void deeds(ReachFlows flows, String name, int want) {
        Checks.due("deeds behind " + name, flows.told(8), want);
    }

    private static void sinceTheImage() {
        says("since the IMAGE (16 at most are kept):");
        for (int more = 0; more < 20; more++) {
            ReachFlows flows = new ReachFlows();
            flows.reach(NONE, 0, 0, 1);
            flows.keep(0);
            Checks.due("deeds ahead of the IMAGE", flows.undo(1), NOT);
            // The ring of 16 is gone round once, and on by some.
            for (int i = 1; i <= 12 + more; i++) {
                flows.side(0, 0, i);
            }
            int kept = Math.min(16, 12 + more);
            Checks.due("deeds kept of " + (12 + more), flows.told(8), kept);
            Checks.due("undo of one more than are kept", flows.undo(kept + 1), kept < 16 ? NOT : OUTSIDE);
            Checks.due("undo of all that are kept", flows.undo(kept), 1);
            Checks.due("SIDE ahead of them", flows.flow(0, 0, 0), 12 + more - kept);
            Checks.due("none is left", flows.undo(1), NOT);
        }
    }

    private static void undoneIsAll() {
        says("all of section 1 is as ahead of them; THE SEED, THE BOOK stay.");
        ReachFlows flows = Checks.told("t24;d2;r-1 2 1;r0 3 4 2;s0 1 2;");
        flows.side(1, 23, 8);
        flows.seen(1, 23, 9);
        flows.times(3);
        flows.write(0, 0, 1);
        flows.keep(0);
        String before = Checks.picture(flows);
        flows.river();
        Checks.tell(flows, "t5;d9;r-0 0 4;r0 0 0 4;s1 7;");
        flows.drift(1);
        flows.take();
        int seed = flows.told(9);
        flows.write(0, 0, 9);
        Checks.due("undo of all four", flows.undo(4), 2);
        Checks.holds("section 1 is as ahead of them", Checks.picture(flows).equals(before));
        Checks.due("THE SEED", flows.told(9), seed);
        Checks.holds("THE SEED was moved", seed != 0);
        Checks.due("THE BOOK", flows.told(6), 2);
        flows.times(24);
        Checks.due("SIDE beyond T", flows.flow(1, 23, 0), 8);
        Checks.due("SEEN beyond T", flows.flow(1, 23, 1), 9);
    }

    private static void images() {
        says("IMAGES 0, 1 keep all of section 1, THE SEED.");
        ReachFlows flows = Checks.told("t24;d2;r-1 2 1;r0 3 4 2;s0 1 2;");
        flows.side(1, 23, 8);
        flows.seen(1, 23, 9);
        flows.times(3);
        flows.seed(2147483647);
        String before = Checks.picture(flows);
        Checks.due("keep(1)", flows.keep(1), 1);
        flows.river();
        flows.seed(0);
        Checks.due("keep(0)", flows.keep(0), 1);
        Checks.due("goBack(1)", flows.goBack(1), 1);
        Checks.holds("section 1 is as it was", Checks.picture(flows).equals(before));
        Checks.due("THE SEED", flows.told(9), 2147483647);
        flows.times(24);
        Checks.due("SIDE beyond T", flows.flow(1, 23, 0), 8);
        Checks.due("SEEN beyond T", flows.flow(1, 23, 1), 9);
        Checks.due("goBack(0)", flows.goBack(0), 1);
        Checks.due("REACHES of the other", flows.told(2), 0);
        Checks.due("THE SEED of the other", flows.told(9), 0);
        Checks.due("keep(2)", flows.keep(2), UNKNOWN);
        Checks.due("keep(-1)", flows.keep(-1), UNKNOWN);
    }
}
