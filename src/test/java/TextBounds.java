/** The bounds of section 2: what a text may be, and which letter has which FAULT. */
final class TextBounds {
    private static final int NONE = ReachFlows.NONE;
    private static final String SIX = "r-1 1 1;r-1 1 1;r-1 1 1;r-1 1 1;r-1 1 1;r-1 1 1;";

    private TextBounds() {
    }

    static void run() {
        letters();
        timesAndStep();
        reachClause();
        sideClause();
        figures();
        blankBetween();
        blanksAnywhere();
        notTold();
        firstAndLeast();
        cannotStand();
        fifthFigure();
        outOfBounds();
        noSuchReach();
        secondOrLate();
        seventh();
        tooManyParts();
        tooManySides();
        emptyText();
    }

    private static void says(String words) {
        Document.says(Document.TERMS, words);
    }

    private static void letters() {
        says("THE TEXT (200 letters at most) tells a river anew: clauses, each with ';' behind it:");
        // The ';' is the 200th letter; by one blank more it finds no room, and the end is within the clause.
        Checks.sound(" ".repeat(192) + "r-1 1 1;", 1);
        ReachFlows flows = Checks.told("t5;d5;r-1 1 1;r0 1 1 1;");
        for (int i = 0; i < 193; i++) {
            flows.feed(' ');
        }
        Checks.due("river() without room for its ';'", Checks.tell(flows, "r-1 1 1;"), -11);
        Checks.due("the end of 200 letters", flows.fault(), 200);
        Checks.due("river() anew", Checks.tell(flows, "r-2 3 4;"), 1);
        Checks.dueRow("T, D, REACHES anew", new long[] {flows.told(0), flows.told(1), flows.told(2)}, 12, 1, 1);
        features(flows, 0, NONE, 2, 3, 4);
        Checks.faulty("t5d5;", 1, 2);
        Checks.faulty("t5:d5;", 1, 2);
        Checks.faulty("r-1 1 1r-1 1 1;", 1, 7);
        Checks.faulty("t5;d5", 1, 5);
    }

    private static void timesAndStep() {
        says("'t' N (T), 'd' N (D), each once at most, ahead of all others;");
        told("", 12, 1);
        told("t2;", 2, 1);
        told("d9;", 12, 9);
        told("t24;d1;", 24, 1);
        told("d9;t2;", 2, 9);
        told("t24;d9;r-1 1 1;s0 1;", 24, 9);
        Checks.faulty("t2;d1;t2;", 3, 6);
        Checks.faulty("r-1 1 1;d1;", 3, 8);
    }

    private static void told(String text, int t, int d) {
        ReachFlows flows = Checks.told(text);
        Checks.due("T of '" + text + "'", flows.told(0), t);
        Checks.due("D of '" + text + "'", flows.told(1), d);
    }

    private static void reachClause() {
        says("'r' BELOW K X PARTS (a REACH; BELOW '-' for NONE);");
        ReachFlows flows = Checks.sound("r-20 10 4;r0 0 0 1;r - 1 2 3;", 3);
        features(flows, 0, NONE, 20, 10, 4);
        features(flows, 1, 0, 0, 0, 1);
        features(flows, 2, NONE, 1, 2, 3);
        // Too few, too many, and '-' where a NUMBER is to stand.
        Checks.faulty("r;", 1, 1);
        Checks.faulty("r-;", 1, 2);
        Checks.faulty("r-1;", 1, 3);
        Checks.faulty("r-1 1;", 1, 5);
        Checks.faulty("r-1 1 1 1;", 1, 8);
        Checks.faulty("r--1 1 1;", 1, 2);
        Checks.faulty("r-1 -1 1;", 1, 4);
        Checks.faulty("r-1-1 1;", 1, 3);
        Checks.faulty("r-1 1 -1;", 1, 6);
        Checks.faulty("r-1 1 1-;", 1, 7);
        Checks.faulty("r-1 1 1;r-0 1 1;r0- 1 1 1;", 1, 18);
    }

    private static void features(ReachFlows flows, int r, long... want) {
        long[] got = {flows.reachAt(r, 0), flows.reachAt(r, 1), flows.reachAt(r, 2), flows.reachAt(r, 3)};
        Checks.dueRow("BELOW, K, X, PARTS of " + r, got, want);
    }

    private static void sideClause() {
        says("'s' R N N .. (SIDE of REACH R from TIME 0 on, one N at least).");
        ReachFlows flows = Checks.sound("t3;r-0 0 1;r0 0 0 1;r1 0 0 1;s0 5;s2 9999 0 7;", 3);
        Checks.dueRow("SIDE of one N", Checks.row(flows, 0, 0), 5, 0, 0);
        Checks.dueRow("SIDE of no 's'", Checks.row(flows, 1, 0), 0, 0, 0);
        Checks.dueRow("SIDE of as many N as TIMES", Checks.row(flows, 2, 0), 9999, 0, 7);
        Checks.faulty("r-1 1 1;s;", 1, 9);
        Checks.faulty("r-1 1 1;s0;", 1, 10);
        Checks.faulty("r-1 1 1;s0 ;", 1, 11);
        Checks.faulty("r-1 1 1;s-1;", 1, 9);
        Checks.faulty("r-1 1 1;s0 -;", 1, 11);
    }

    private static void figures() {
        says("All N are NUMBERS of 1 to 4 figures,");
        told("t2;d9;", 2, 9);
        told("t0002;d0009;", 2, 9);
        ReachFlows flows = Checks.sound("r-0020 0010 0004;r0000 020 010 04;s0001 0000 9999 0 0001;", 2);
        features(flows, 0, NONE, 20, 10, 4);
        features(flows, 1, 0, 20, 10, 4);
        Checks.due("SIDE of 0000", flows.flow(1, 0, 0), 0);
        Checks.due("SIDE of 9999", flows.flow(1, 1, 0), 9999);
        Checks.due("SIDE of 0001", flows.flow(1, 3, 0), 1);
        Checks.faulty("t;", 1, 1);
        Checks.faulty("t00002;", 2, 5);
        Checks.faulty("t+2;", 1, 1);
        Checks.faulty("t2.0;", 1, 2);
        Checks.faulty("t" + (char) 178 + ";", 1, 1);
    }

    private static void blankBetween() {
        says("by one blank (32) at least from what is ahead of them, if that is a figure;");
        Checks.sound("t5;d5;r-1 1 1;s0 1;", 1);
        features(Checks.sound("r-1   2    3;", 1), 0, NONE, 1, 2, 3);
        // Without a blank it is one NUMBER.
        Checks.faulty("r-111;", 2, 2);
        Checks.faulty("r-1 10;", 1, 6);
        Checks.faulty("r-1 11;", 2, 4);
        Checks.faulty("r-1 111;", 2, 4);
        Checks.faulty("r-1 1 1;s01;", 2, 9);
        Checks.due("SIDE of one NUMBER", Checks.sound("r-1 1 1;s0 12;", 1).flow(0, 0, 0), 12);
        Checks.due("SIDE of two NUMBERS", Checks.sound("r-1 1 1;s0 1 2;", 1).flow(0, 0, 0), 1);
        // What looks like a blank is none.
        for (int letter : new int[] {0, 9, 10, 11, 12, 13, 28, 31, 33, 44, 133, 160}) {
            Checks.faulty("r-1" + (char) letter + "1 1;", 1, 3);
        }
    }

    private static void blanksAnywhere() {
        says("blanks may stand anywhere but within NUMBERS.");
        told("  t  5  ;  d  6  ;  ", 5, 6);
        ReachFlows flows = Checks.sound("   r   -   20   10   4   ;   s   0   1   22   ;   ", 1);
        features(flows, 0, NONE, 20, 10, 4);
        Checks.due("SIDE", flows.flow(0, 1, 0), 22);
        Checks.due("a text of blanks alone", Checks.sound(" ".repeat(200), 0).told(8), 1);
        Checks.faulty("t2 4;", 1, 3);
        Checks.faulty("r-2 0 1 1;", 1, 8);
        Checks.dueRow("a blank makes two of one", Checks.row(Checks.sound("t2;r-0 0 1;s0 1 2;", 1), 0, 0), 1, 2);
    }

    private static void notTold() {
        says("What is not told is as at first.");
        ReachFlows flows = Checks.told("t24;d9;r-20 10 1;r0 20 10 1;r1 20 10 1;");
        for (int t = 0; t < 24; t++) {
            flows.side(0, t, 9999);
            flows.seen(0, t, 9999);
        }
        Checks.due("anew, without T and D", Checks.tell(flows, "r-1 1 1;s0 5;"), 1);
        Checks.due("T", flows.told(0), 12);
        Checks.due("D", flows.told(1), 1);
        flows.times(24);
        long[] sides = new long[24];
        sides[0] = 5;
        Checks.dueRow("SIDE", Checks.row(flows, 0, 0), sides);
        Checks.dueRow("SEEN", Checks.row(flows, 0, 1), new long[24]);
        // Nor is it as an earlier text told it, be it that that one had a FAULT.
        Checks.due("a FAULT at the end", Checks.tell(flows, "t7;d7;r-7 7 1;s0 7 7 7;r"), -11);
        Checks.due("anew", Checks.tell(flows, "r-1 1 1;"), 1);
        Checks.due("T", flows.told(0), 12);
        Checks.due("D", flows.told(1), 1);
        Checks.dueRow("SIDE", Checks.row(flows, 0, 0), new long[12]);
    }

    private static void firstAndLeast() {
        says("FAULTS, at the first letter that has one (the end at the text's length), of these the least:");
        // The first letter, be its FAULT greater than a later one.
        Checks.faulty("t25x", 2, 1);
        Checks.faulty("t5;t5;x", 3, 3);
        Checks.faulty(SIX + "r-1 1 9;x", 4, 48);
        Checks.faulty("r-1 1 4;r-1 1 4;r-1 1 1x", 4, 22);
        Checks.faulty("x t25;", 1, 0);
        // The end, where it is.
        Checks.faulty("t5", 1, 2);
        Checks.faulty("t5   ", 1, 5);
        Checks.faulty("t25", 2, 1);
        // What an earlier, longer text had behind the end is not there.
        endsBehind("t5;", "t5", 2);
        endsBehind("t5     ;", "t5", 2);
        endsBehind("t5     ;", "t5  ", 4);
        endsBehind("r-1 1 1;", "r-1 1", 5);
        endsBehind("r-1 1 1;s0 1 2;", "r-1 1 1;s0", 10);
        endsBehind("t12;", "t", 1);
        // Of several at one letter the least: 1 and 3, 1 and 4, 2 and 4.
        Checks.faulty("t5 t5;", 1, 3);
        Checks.faulty("r-1 1 1 d5;", 1, 8);
        Checks.faulty(SIX.substring(0, 47) + "r", 1, 47);
        Checks.faulty("r-1 1 4;r-1 1 4;r-1 1 5;", 2, 22);
        Checks.faulty("r-1 1 4;r-1 1 4;r-1 1 9999;", 2, 22);
    }

    private static void endsBehind(String earlier, String text, int place) {
        ReachFlows flows = Checks.told(earlier);
        Checks.due("river() of '" + text + "' behind '" + earlier + "'", Checks.tell(flows, text), -11);
        Checks.due("fault() of '" + text + "' behind '" + earlier + "'", flows.fault(), place);
    }

    private static void cannotStand() {
        says("1 it cannot stand there (the end, too, within a clause).");
        for (int letter = 0; letter < 256; letter++) {
            firstLetter(letter);
            letterBehindNumber(letter);
        }
        // Every beginning of a text: it ends within a clause, but behind a ';' and its blanks.
        String whole = " t 5; d2;r- 1 1 1;r0 1 1 1 ; s 1 12 3;";
        for (int length = 0; length < whole.length(); length++) {
            String text = whole.substring(0, length);
            if (text.isBlank() || text.stripTrailing().endsWith(";")) {
                Checks.due("fault() of '" + text + "'", Checks.told(text).fault(), NONE);
            } else {
                Checks.faulty(text, 1, length);
            }
        }
        Checks.faulty(";", 1, 0);
        Checks.faulty("t5;;", 1, 3);
        Checks.faulty("t5;5;", 1, 3);
        Checks.faulty("T5;", 1, 0);
        Checks.faulty("tt5;", 1, 1);
        Checks.faulty("t5d5;", 1, 2);
        Checks.faulty("r-1 1 1s0 1;", 1, 7);
        Checks.faulty("r-1 1 1;s0 1 s0 1;", 1, 13);
        Checks.faulty("t5;\t", 1, 3);
        Checks.faulty("t5 12345;", 1, 3);
        Checks.faulty("rt", 1, 1);
        Checks.faulty("r-1 1 1t", 1, 7);
    }

    private static void firstLetter(int letter) {
        String text = String.valueOf((char) letter);
        if (letter == ' ') {
            Checks.sound(text, 0);
        } else {
            Checks.faulty(text, 1, "tdrs".contains(text) ? 1 : 0);
        }
    }

    private static void letterBehindNumber(int letter) {
        String text = "t3" + (char) letter;
        if (letter == ';') {
            Checks.sound(text, 0);
        } else if (letter >= '0' && letter <= '9') {
            Checks.faulty(text, 2, 1);
        } else {
            Checks.faulty(text, 1, letter == ' ' ? 3 : 2);
        }
    }

    private static void fifthFigure() {
        says("2 a fifth figure of a NUMBER (at it);");
        Checks.faulty("t00005;", 2, 5);
        Checks.faulty("t99999;", 2, 5);
        Checks.faulty("t000000000;", 2, 5);
        Checks.faulty("t00005", 2, 5);
        Checks.faulty("t00005x", 2, 5);
        Checks.faulty("d00001;", 2, 5);
        Checks.faulty("d 00001;", 2, 6);
        Checks.faulty("r-1 1 1;r00000 1 1 1;", 2, 13);
        Checks.faulty("r-1 1 1;r0000 1 1 1;r00000 1 1 1;", 2, 25);
        Checks.faulty("r-00001 1 1;", 2, 6);
        Checks.faulty("r-1 00001 1;", 2, 8);
        Checks.faulty("r-1 1 00001;", 2, 10);
        Checks.faulty("r-1 1 1;s00000 1;", 2, 13);
        Checks.faulty("r-1 1 1;s0 00001;", 2, 15);
        Checks.faulty("r-1 1 1;s0 1 10000;", 2, 17);
        // PARTS of five figures are no NUMBER by which there could be more than 8.
        Checks.faulty("r-1 1 4;r-1 1 4;r-1 1 00001;", 2, 26);
    }

    private static void outOfBounds() {
        says("a NUMBER of four at most that is out of its bounds,");
        Checks.faulty("t0;", 2, 1);
        Checks.faulty("t1;", 2, 1);
        Checks.sound("t2;", 0);
        Checks.sound("t24;", 0);
        Checks.faulty("t25;", 2, 1);
        Checks.faulty("t 9999;", 2, 2);
        Checks.faulty("d0;", 2, 1);
        Checks.sound("d1;", 0);
        Checks.sound("d9;", 0);
        Checks.faulty("d10;", 2, 1);
        Checks.faulty("d 0010;", 2, 2);
        Checks.sound("r-0 0 1;", 1);
        Checks.sound("r-20 10 4;", 1);
        Checks.faulty("r-21 0 1;", 2, 2);
        Checks.faulty("r-9999 0 1;", 2, 2);
        Checks.faulty("r-0 11 1;", 2, 4);
        Checks.faulty("r-0 0011 1;", 2, 4);
        Checks.faulty("r-0 0 0;", 2, 6);
        Checks.faulty("r-0 0 0000;", 2, 6);
        Checks.faulty("r-0 0 5;", 2, 6);
        Checks.due("SIDE has none that is", Checks.sound("r-0 0 1;s0 0 9999;", 1).flow(0, 1, 0), 9999);
    }

    private static void noSuchReach() {
        says("that of a REACH that there is not (BELOW is to be told ahead) (at its first figure).");
        Checks.faulty("r0 1 1 1;", 2, 1);
        Checks.faulty("r1", 2, 1);
        Checks.faulty("r-1 1 1;r1 1 1 1;", 2, 9);
        Checks.sound("r-1 1 1;r0 1 1 1;", 2);
        Checks.faulty("r-1 1 1;r 0002 1 1 1;r-1 1 1;", 2, 10);
        Checks.sound("r-1 1 1;r-1 1 1;r1 1 1 1;", 3);
        Checks.faulty("r-1 1 1;r9999 1 1 1;", 2, 9);
        Checks.faulty("s0 1;", 2, 1);
        Checks.faulty("t5;s 0 1;", 2, 5);
        Checks.faulty("r-1 1 1;s1 1;", 2, 9);
        Checks.faulty("r-1 1 1;s 0001 1;r-1 1 1;", 2, 10);
        Checks.sound(SIX + "s5 1;", 6);
        Checks.faulty(SIX + "s6 1;", 2, 49);
        // The REACHES of the river that is so now are none of the text's.
        ReachFlows flows = Checks.told("r-1 1 1;r-1 1 1;");
        Checks.due("river() of a REACH of another text", Checks.tell(flows, "r0 1 1 1;"), -12);
        Checks.due("river() of SIDE of another text", Checks.tell(flows, "r-1 1 1;s1 1;"), -12);
    }

    private static void secondOrLate() {
        says("3 't', 'd' a second time, or behind 'r' or 's'.");
        Checks.faulty("t5;t5;", 3, 3);
        Checks.faulty("t5;d5; t5;", 3, 7);
        Checks.faulty("d5;d5;", 3, 3);
        Checks.faulty("d5;t5;d5;", 3, 6);
        Checks.faulty("r-1 1 1;t5;", 3, 8);
        Checks.faulty("r-1 1 1;d5;", 3, 8);
        Checks.faulty("r-1 1 1;s0 1;t5;", 3, 13);
        Checks.faulty("r-1 1 1;s0 1; d5;", 3, 14);
        Checks.faulty("t5;r-1 1 1;d5;", 3, 11);
        Checks.faulty("d5;r-1 1 1;t5;", 3, 11);
        // It is at the letter, whatever follows.
        Checks.faulty("t5;t", 3, 3);
        Checks.faulty("t5;t5t", 3, 3);
        Checks.faulty("d5;d0", 3, 3);
        // In the next text it is the first time again, behind a FAULT, too.
        ReachFlows flows = Checks.told("t5;d5;r-1 1 1;");
        Checks.due("river() of the next text", Checks.tell(flows, "t6;d6;"), 0);
        Checks.due("river() of a FAULT", Checks.tell(flows, "t6;d6;t6;"), -13);
        Checks.due("river() behind a FAULT", Checks.tell(flows, "d6;t6;"), 0);
    }

    private static void seventh() {
        says("4 a seventh 'r';");
        Checks.sound(SIX, 6);
        Checks.faulty(SIX + "r-1 1 1;", 4, 48);
        Checks.faulty(SIX + "r", 4, 48);
        Checks.faulty(SIX + "s0 1;  rx", 4, 55);
        // Of 8 PARTS it is at the letter, too.
        Checks.faulty("r-1 1 3;r-1 1 1;r-1 1 1;r-1 1 1;r-1 1 1;r-1 1 1;r-1 1 1;", 4, 48);
    }

    private static void tooManyParts() {
        says("PARTS by which all would have more than 8 together (at its first figure);");
        Checks.due("8 PARTS", Checks.sound("r-1 1 4;r-1 1 4;", 2).told(3), 8);
        Checks.due("8 PARTS of six", Checks.sound("r-1 1 1;r-1 1 1;r-1 1 1;r-1 1 1;r-1 1 1;r-1 1 3;", 6).told(3), 8);
        Checks.faulty("r-1 1 4;r-1 1 4;r-1 1 1;", 4, 22);
        Checks.faulty("r-1 1 4;r-1 1 3;r-1 1 2;", 4, 22);
        Checks.faulty("r-1 1 3;r-1 1 2;r-1 1   0004;", 4, 24);
        Checks.faulty("r-1 1 4;r-1 1 4;r-1 1 1", 4, 22);
        Checks.faulty("r-1 1 1;r-1 1 1;r-1 1 1;r-1 1 1;r-1 1 1;r-1 1 4;", 4, 46);
        // The PARTS of the river that is so now are none of the text's.
        ReachFlows flows = Checks.told("r-1 1 4;r-1 1 4;");
        Checks.due("8 PARTS anew", Checks.tell(flows, "r-1 1 4;r-1 1 4;"), 2);
    }

    private static void tooManySides() {
        says("more N behind 's' than TIMES (at the first figure of the first too many, whatever follows).");
        Checks.sound("t2;r-1 1 1;s0 1 2;", 1);
        Checks.faulty("t2;r-1 1 1;s0 1 2 3;", 4, 18);
        Checks.faulty("t2;r-1 1 1;s0 1 2 3 4;", 4, 18);
        Checks.faulty("t2;r-1 1 1;s0 1 2   34567;", 4, 20);
        Checks.faulty("t2;r-1 1 1;s0 1 2 3", 4, 18);
        Checks.faulty("t2;r-1 1 1;s0 1 2 3x", 4, 18);
        // What is no figure cannot stand there at all.
        Checks.faulty("t2;r-1 1 1;s0 1 2 x", 1, 18);
        Checks.faulty("t2;r-1 1 1;s0 1 2 ", 1, 18);
        Checks.sound("r-1 1 1;s0" + " 7".repeat(12) + ";", 1);
        Checks.faulty("r-1 1 1;s0" + " 7".repeat(13) + ";", 4, 35);
        Checks.faulty("r-1 1 1;s0 1 2 3 4 5 6 7 8 9 10 11 12 13;", 4, 38);
        ReachFlows most = Checks.sound("t24;r-1 1 1;s0" + " 7".repeat(24) + ";", 1);
        Checks.due("SIDE at the last TIME", most.flow(0, 23, 0), 7);
        Checks.faulty("t24;r-1 1 1;s0" + " 7".repeat(25) + ";", 4, 63);
        // T of the river that is so now is none of the text's.
        ReachFlows flows = Checks.told("t24;");
        Checks.due("river() of 13 N", Checks.tell(flows, "r-1 1 1;s0" + " 7".repeat(13) + ";"), -14);
    }

    private static void emptyText() {
        says("(An empty text is a river without REACHES.)");
        ReachFlows flows = new ReachFlows();
        Checks.due("river() of nothing, on a new one", flows.river(), 0);
        Checks.due("it is a deed", flows.told(8), 1);
        Checks.tell(flows, "t5;d5;r-1 1 1;");
        Checks.due("river() of nothing", flows.river(), 0);
        Checks.dueRow("T, D, REACHES, PARTS", new long[] {flows.told(0), flows.told(1), flows.told(2), flows.told(3)}, 12, 1, 0, 0);
        Checks.due("fault() of nothing", flows.fault(), NONE);
        Checks.due("undo", flows.undo(1), 1);
    }
}
