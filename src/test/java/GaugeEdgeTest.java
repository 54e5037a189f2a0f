/** Terms of part 3 from the GAUGE on, promises 17 to 21: a method for each sentence that names a bound, at both sides of it. */
public final class GaugeEdgeTest {
    private static final int BAD = BandBoat.BAD;
    private static final int FULL = BandBoat.FULL;
    private static final int NONE = BandBoat.NONE;
    /** No KNOT below 400 PARTS: a turn pulls 10 U, and that times (100 less D) by 100 as it is let go. */
    private static final String PLAIN = "q7,7,40,99;b0,1,1;";
    private static final String STUFF = "q40,15,6,30;b0,";
    private static final String REST = "h7,25,3;r1;c4;a2;w8;";

    public static void main(String[] args) {
        readingRanges();
        sixReadingsAtMost();
        fitsRanges();
        fitsWithoutReadings();
        fitsEOrLessOff();
        fitsAllReadings();
        fitsFromEndToEnd();
        fitsOfReadingsAtTheirEdges();
        fitsInPlaceOfItsStuff();
        markRanges();
        fourMarksAtMost();
        toldRanges();
        toldWithoutMarks();
        toldFromTLessEToT();
        toldByAllMarks();
        toldTheFirst();
        toldAtTheEnds();
        forgetAll();
        Check.end("GaugeEdgeTest");
    }

    private static void fits(BandBoat x, int e, int... due) {
        for (int what = 0; what <= 4; what++) {
            int want = due.length == 0 ? what == 0 ? 0 : NONE : due[what];
            Check.due("fits(" + e + ", " + what + ")", x.fits(e, what), want);
        }
    }

    private static BandBoat read(int n, int up, int down) {
        BandBoat x = Check.boat(PLAIN);
        Check.due("reading", x.reading(n, up, down), 1);
        return x;
    }

    /** 'n turns, a PULL up, a PULL down (0 to 9999)'. */
    private static void readingRanges() {
        BandBoat x = new BandBoat();
        int[][] wrong = {{-1, 5, 5}, {401, 5, 5}, {5, -1, 5}, {5, 10000, 5}, {5, 5, -1}, {5, 5, 10000}, {-1, -1, -1}};
        for (int[] row : wrong) {
            Check.due("reading", x.reading(row[0], row[1], row[2]), BAD);
            Check.due("count(2)", x.count(2), 0);
        }
        int[][] right = {{0, 0, 0}, {400, 9999, 9999}, {0, 9999, 0}, {400, 0, 9999}, {0, 0, 9999}, {1, 1, 1}};
        for (int i = 0; i < right.length; i++) {
            Check.due("reading", x.reading(right[i][0], right[i][1], right[i][2]), i + 1);
            Check.due("count(2)", x.count(2), i + 1);
        }
    }

    /** 'READINGS (6 at most)'. */
    private static void sixReadingsAtMost() {
        BandBoat x = Check.boat(PLAIN);
        for (int i = 1; i <= 6; i++) {
            Check.due("reading", x.reading(1, 300, 150), i);
        }
        Check.due("a seventh", x.reading(1, 0, 0), FULL);
        Check.due("a seventh", x.reading(1, 0, 0), FULL);
        Check.due("count(2)", x.count(2), 6);
        fits(x, 0, 1, 30, 30, 50, 50);
        Check.due("BAD is first", x.reading(1, 0, 10000), BAD);
        Check.due("MARKS are others", x.mark(1, 1), 1);
        Check.due("forget", x.forget(), 7);
        Check.due("there is room again", x.reading(1, 300, 150), 1);
    }

    /** 'FITS e (0 to 999)'. */
    private static void fitsRanges() {
        BandBoat x = read(1, 300, 150);
        int[][] wrong = {{-1, 0}, {1000, 0}, {-1, 3}, {1000, 3}, {5, -1}, {5, 5}};
        for (int[] row : wrong) {
            Check.due("fits(" + row[0] + ", " + row[1] + ")", x.fits(row[0], row[1]), BAD);
        }
        fits(x, 0, 1, 30, 30, 50, 50);
        fits(x, 999, 9009, 1, 99, 0, 90);
        // BAD is first, where none fits, too.
        BandBoat none = read(1, 301, 150);
        Check.due("fits(0, 5)", none.fits(0, 5), BAD);
        Check.due("fits(0, -1)", none.fits(0, -1), BAD);
        Check.due("fits(1000, 1)", none.fits(1000, 1), BAD);
    }

    private static void fitsWithoutReadings() {
        fits(new BandBoat(), 0, 9009, 1, 99, 0, 90);
        fits(Check.boat(PLAIN), 999, 9009, 1, 99, 0, 90);
    }

    /** 'by which all READINGS are e or less off': above and below, as it is wound and as it is let go. */
    private static void fitsEOrLessOff() {
        // Up 300 is U 30; 9 off is still U 30 alone, 10 off is U 29 to 31.
        fits(read(1, 300, 150), 9, 7, 30, 30, 47, 53);
        fits(read(1, 300, 150), 10, 20, 29, 31, 45, 54);
        // Up off by 4 to either side, down right.
        for (int off : new int[] {-4, 4}) {
            fits(read(1, 300 + off, 150), 3);
            fits(read(1, 300 + off, 150), 4, 3, 30, 30, 49, 51);
            Check.due("fits(5)", read(1, 300 + off, 150).fits(5, 0), 3);
        }
        // Down 151 is 1 off 150 (D 50) and 2 off 153 (D 49); up right.
        fits(read(1, 300, 151), 0);
        fits(read(1, 300, 151), 1, 1, 30, 30, 50, 50);
        fits(read(1, 300, 151), 2, 2, 30, 30, 49, 50);
        fits(read(1, 300, 152), 0);
        fits(read(1, 300, 152), 1, 1, 30, 30, 49, 49);
        fits(read(1, 300, 152), 2, 2, 30, 30, 49, 50);
    }

    /** 'all READINGS': each of the six may be the one that does not fit. */
    private static void fitsAllReadings() {
        for (int wrong = 0; wrong < 6; wrong++) {
            for (boolean down : new boolean[] {false, true}) {
                BandBoat x = Check.boat(PLAIN);
                for (int i = 0; i < 6; i++) {
                    fits(x, 0, i > wrong ? new int[0] : i == 0 ? new int[] {9009, 1, 99, 0, 90} : new int[] {1, 30, 30, 50, 50});
                    int off = i == wrong ? 1 : 0;
                    x.reading(2, 600 + (down ? 0 : off), 300 + (down ? off : 0));
                }
                fits(x, 0);
                fits(x, 1, 1, 30, 30, 50, 50);
            }
        }
    }

    /** 'all U (1 to 99), D (0 to 90)'. */
    private static void fitsFromEndToEnd() {
        fits(read(1, 990, 990), 0, 1, 99, 99, 0, 0);
        fits(read(1, 10, 1), 0, 10, 1, 1, 81, 90);
        fits(read(1, 990, 99), 0, 1, 99, 99, 90, 90);
        fits(read(1, 10, 10), 0, 1, 1, 1, 0, 0);
        // U 100, U 0 and D 91 would fit.
        fits(read(1, 1000, 1000), 9);
        fits(read(1, 1000, 1000), 10, 1, 99, 99, 0, 0);
        fits(read(1, 0, 0), 9);
        fits(read(1, 0, 0), 10, 91, 1, 1, 0, 90);
        fits(read(1, 990, 89), 9);
        fits(read(1, 990, 89), 10, 2, 98, 99, 90, 90);
    }

    /** The least and greatest numbers of a READING count as they are. */
    private static void fitsOfReadingsAtTheirEdges() {
        fits(read(0, 0, 0), 0, 9009, 1, 99, 0, 90);
        fits(read(0, 1, 0), 0);
        fits(read(0, 0, 1), 0);
        fits(read(0, 9999, 0), 999);
        fits(read(0, 999, 999), 999, 9009, 1, 99, 0, 90);
        fits(read(0, 1000, 999), 999);
        fits(read(0, 999, 1000), 999);
        // 400 turns of a weak long band: 40000 U by 400, above 16000 PARTS twice that more: 220 U.
        BandBoat x = Check.boat("q7,7,40,99;b0,1,40;");
        x.reading(400, 9999, 9999);
        fits(x, 98);
        fits(x, 99, 1, 45, 45, 0, 0);
    }

    /** 'in place of those of its STUFF': its KNOT, the BAND, cold and age are as they are. */
    private static void fitsInPlaceOfItsStuff() {
        String text = "q1,1,1,1;q44,33,2,9;b1,3,2;c7;a9;";
        for (int n : new int[] {1, 3, 5}) {
            BandBoat x = Check.boat(text);
            int up = x.pull(100 * n, false);
            int down = x.pull(100 * n, true);
            Check.truth("a gauge tells it", up <= 9999);
            x.reading(n, up, down);
            Check.due("least U", x.fits(0, 1), 44);
            Check.due("greatest U", x.fits(0, 2), 44);
            Check.truth("D 33", x.fits(0, 3) <= 33 && x.fits(0, 4) >= 33);
            for (int what = 3; what <= 4; what++) {
                int d = x.fits(0, what);
                BandBoat y = Check.boat("q1,1,1,1;q44," + d + ",2,9;b1,3,2;c7;a9;");
                Check.due("PULL with D " + d, y.pull(100 * n, true), down);
            }
        }
    }

    /** 'A MARK (d 1 to 99999, t 0 to 600)'. */
    private static void markRanges() {
        BandBoat x = new BandBoat();
        int[][] wrong = {{0, 5}, {100000, 5}, {-1, 5}, {5, -1}, {5, 601}, {0, 601}};
        for (int[] row : wrong) {
            Check.due("mark", x.mark(row[0], row[1]), BAD);
            Check.due("count(3)", x.count(3), 0);
        }
        int[][] right = {{1, 0}, {99999, 600}, {1, 600}, {99999, 0}};
        for (int i = 0; i < right.length; i++) {
            Check.due("mark", x.mark(right[i][0], right[i][1]), i + 1);
            Check.due("count(3)", x.count(3), i + 1);
        }
    }

    /** 'MARKS (4 at most)'. */
    private static void fourMarksAtMost() {
        BandBoat x = new BandBoat();
        int when = x.when(100, -1, 1500);
        for (int i = 1; i <= 4; i++) {
            Check.due("mark", x.mark(1500, when), i);
        }
        int told = x.told(3, 0);
        Check.truth("some are told", told > 0);
        Check.due("a fifth", x.mark(99999, 0), FULL);
        Check.due("a fifth", x.mark(99999, 0), FULL);
        Check.due("count(3)", x.count(3), 4);
        Check.due("the fifth is not asked for", x.told(3, 0), told);
        Check.due("BAD is first", x.mark(99999, 601), BAD);
        Check.due("READINGS are others", x.reading(1, 1, 1), 1);
        Check.due("forget", x.forget(), 5);
        Check.due("there is room again", x.mark(5, 5), 1);
    }

    /** 'TOLD BY MARKS with e (0 to 50)'. */
    private static void toldRanges() {
        BandBoat x = new BandBoat();
        int[][] wrong = {{-1, 0}, {51, 0}, {-1, 5}, {51, 5}, {5, -1}, {5, 10}};
        for (int[] row : wrong) {
            Check.due("told(" + row[0] + ", " + row[1] + ")", x.told(row[0], row[1]), BAD);
        }
        x.mark(99999, 1);
        for (int[] row : wrong) {
            Check.due("none: told(" + row[0] + ", " + row[1] + ")", x.told(row[0], row[1]), BAD);
        }
        for (int e : new int[] {0, 50}) {
            for (int what = 0; what <= 9; what++) {
                Check.due("none: told(" + e + ", " + what + ")", x.told(e, what), what == 0 ? 0 : NONE);
            }
        }
    }

    /** Without a MARK all are told: S 1 to 8, P 1 to 9, n 10, 20, .. 400. */
    private static void toldWithoutMarks() {
        int[] all = {8 * 9 * 40, 1, 1, 10, 1, 8, 1, 9, 10, 400};
        for (int e : new int[] {0, 50}) {
            BandBoat x = new BandBoat();
            for (int what = 0; what <= 9; what++) {
                Check.due("told(" + e + ", " + what + ")", x.told(e, what), all[what]);
            }
        }
    }

    /** How many of all S, P, n have each WHEN of d; those that have none are not counted. */
    private static int[] whensOf(int d) {
        int[] whens = new int[601];
        for (int s = 1; s <= 8; s++) {
            for (int p = 1; p <= 9; p++) {
                BandBoat y = Check.boat(STUFF + s + ",9;p" + p + ",7;" + REST);
                for (int n = 10; n <= 400; n += 10) {
                    int when = y.when(n, -1, d);
                    whens[when == NONE ? 0 : when] += when == NONE ? 0 : 1;
                }
            }
        }
        return whens;
    }

    /** 'WHEN of d is from t less e to t': t and t less e are in, the next to either side are out; nothing is at once. */
    private static void toldFromTLessEToT() {
        int asked = 0;
        int found = 0;
        for (int d : new int[] {1, 60, 900, 5000, 13000}) {
            int[] whens = whensOf(d);
            BandBoat x = null;
            for (int t : new int[] {0, 1, 2, 3, 10, 30, 49, 50, 51, 52, 100, 150, 300, 599, 600}) {
                x = Check.boat(STUFF + "5,9;p6,7;" + REST);
                x.mark(d, t);
                for (int e : new int[] {0, 1, 2, 49, 50}) {
                    int due = 0;
                    for (int w = Math.max(0, t - e); w <= t; w++) {
                        due += whens[w];
                    }
                    Check.due("d " + d + " t " + t + ": told(" + e + ", 0)", x.told(e, 0), due);
                    asked++;
                    found += due > 0 ? 1 : 0;
                }
            }
            Check.due("a MARK at once", markedAt(d, 0).told(50, 0), 0);
        }
        Check.truth("some are told: " + found + " of " + asked, found > 60);
    }

    private static BandBoat markedAt(int d, int t) {
        BandBoat x = Check.boat(STUFF + "5,9;p6,7;" + REST);
        x.mark(d, t);
        return x;
    }

    /** 'for each MARK': each of the four may be the one that is not met; the latest need not be the last. */
    private static void toldByAllMarks() {
        int[] d = {40, 300, 900, 2000};
        int[] t = new int[4];
        BandBoat y = Check.boat(STUFF + "3,9;p7,7;" + REST);
        for (int i = 0; i < 4; i++) {
            t[i] = y.when(120, -1, d[i]);
        }
        int[][] orders = {{0, 1, 2, 3}, {3, 2, 1, 0}, {1, 3, 0, 2}};
        for (int[] order : orders) {
            int all = markedBy(d, t, order, -1).told(0, 0);
            Check.truth("some are told", all > 0);
            for (int wrong = 0; wrong < 4; wrong++) {
                Check.due("but for one", markedBy(d, t, order, wrong).told(0, 0), 0);
                Check.due("but for one", markedBy(d, t, order, wrong).told(0, 1), NONE);
            }
        }
    }

    /** Marks in an order; the one at a place of it is never met. */
    private static BandBoat markedBy(int[] d, int[] t, int[] order, int wrong) {
        BandBoat x = Check.boat(STUFF + "5,9;p6,7;" + REST);
        for (int i = 0; i < order.length; i++) {
            x.mark(i == wrong ? 99999 : d[order[i]], t[order[i]]);
        }
        Check.due("count(3)", x.count(3), 4);
        return x;
    }

    /** 'the first of them (by S, then P, then n); the least, greatest S, P, n'. */
    private static void toldTheFirst() {
        int apart = 0;
        for (int d : new int[] {60, 900, 5000}) {
            for (int t : new int[] {12, 40, 90}) {
                int[] due = {0, 0, 0, 0, 999, 0, 999, 0, 999, 0};
                for (int s = 1; s <= 8; s++) {
                    for (int p = 1; p <= 9; p++) {
                        BandBoat y = Check.boat(STUFF + s + ",9;p" + p + ",7;" + REST);
                        for (int n = 10; n <= 400; n += 10) {
                            int when = y.when(n, -1, d);
                            if (when != NONE && when >= t - 2 && when <= t) {
                                note(due, s, p, n);
                            }
                        }
                    }
                }
                for (int what = 0; what <= 9; what++) {
                    int want = what > 0 && due[0] == 0 ? NONE : due[what];
                    Check.due("d " + d + " t " + t + ": told(2, " + what + ")", markedAt(d, t).told(2, what), want);
                }
                apart += due[2] > due[6] || due[3] > due[8] ? 1 : 0;
            }
        }
        Check.truth("the first has not the least P or n", apart > 0);
    }

    private static void note(int[] due, int... tried) {
        due[0]++;
        for (int i = 0; i < 3; i++) {
            due[1 + i] = due[0] == 1 ? tried[i] : due[1 + i];
            due[4 + 2 * i] = Math.min(due[4 + 2 * i], tried[i]);
            due[5 + 2 * i] = Math.max(due[5 + 2 * i], tried[i]);
        }
    }

    /** 'of all S (1 to 8), P (1 to 9), n (10, 20, .. 400)': the last at each end is alone to meet a MARK. */
    private static void toldAtTheEnds() {
        // Behind the first TENTH the boat with most strands, the steepest blade and most turns is farthest.
        aloneTold("q36,0,1,1;b0,%d,1;p%d,1;h4,1,0;", 8, 9, 400, 854, 1);
        // With fewest of all it takes longest.
        aloneTold("q36,0,40,99;b0,%d,2;p%d,18;h7,3,0;", 1, 1, 10, 34, 6);
        aloneTold("q86,0,40,99;b0,%d,2;p%d,8;h9,7,0;", 1, 1, 10, 154, 31);
        BandBoat x = Check.boat("q36,0,1,1;b0,2,1;p2,1;h4,1,0;");
        x.mark(855, 1);
        Check.due("none is farther", x.told(0, 0), 0);
    }

    private static void aloneTold(String text, int s, int p, int n, int d, int t) {
        Check.due("WHEN", Check.boat(String.format(text, s, p)).when(n, -1, d), t);
        BandBoat x = Check.boat(String.format(text, 2, 2));
        x.mark(d, t);
        int[] due = {1, s, p, n, s, s, p, p, n, n};
        for (int what = 0; what <= 9; what++) {
            Check.due("alone: told(0, " + what + ")", x.told(0, what), due[what]);
        }
    }

    /** 'No READINGS, no MARKS: how many were, together.' */
    private static void forgetAll() {
        for (int readings = 0; readings <= 6; readings += 3) {
            for (int marks = 0; marks <= 4; marks += 2) {
                BandBoat x = new BandBoat();
                x.wind(5);
                x.keep();
                for (int i = 0; i < readings; i++) {
                    x.reading(400, 0, 0);
                }
                for (int i = 0; i < marks; i++) {
                    x.mark(99999, 0);
                }
                Check.due("fits", x.fits(0, 0), readings == 0 ? 9009 : 0);
                Check.due("told", x.told(0, 0), marks == 0 ? 2880 : 0);
                Check.due("forget", x.forget(), readings + marks);
                Check.due("count(2)", x.count(2), 0);
                Check.due("count(3)", x.count(3), 0);
                Check.due("fits", x.fits(0, 0), 9009);
                Check.due("told", x.told(0, 0), 2880);
                Check.due("forget again", x.forget(), 0);
                Check.due("what is KEPT stays", x.count(4), 1);
                Check.due("THE BOAT stays", x.now(0), 500);
                Check.due("reading", x.reading(0, 0, 0), 1);
                Check.due("mark", x.mark(1, 600), 1);
            }
        }
    }
}
