/** Promises 17 to 21: reading, fits, mark, told, forget. */
public final class GaugeTest {
    public static void main(String[] args) {
        reading();
        fits();
        fitsByTrying();
        mark();
        told();
        toldEdges();
        forget();
        Check.end("GaugeTest");
    }

    private static void reading() {
        BandBoat x = new BandBoat();
        int[][] wrong = {{-1, 0, 0}, {401, 0, 0}, {5, -1, 0}, {5, 10000, 0}, {5, 0, -1}, {5, 0, 10000}};
        for (int[] row : wrong) {
            Check.due("reading BAD", x.reading(row[0], row[1], row[2]), BandBoat.BAD);
        }
        Check.due("count", x.count(2), 0);
        Check.due("reading", x.reading(400, 9999, 0), 1);
        Check.due("reading", x.reading(0, 0, 9999), 2);
        for (int i = 3; i <= 6; i++) {
            Check.due("reading", x.reading(i, 5, 5), i);
        }
        Check.due("reading FULL", x.reading(0, 0, 0), BandBoat.FULL);
        Check.due("reading BAD first", x.reading(-1, 0, 0), BandBoat.BAD);
        Check.due("count", x.count(2), 6);
        Check.due("count of marks", x.count(3), 0);
    }

    private static void fits() {
        // S 1, L 1, no knot below 400: up is 10 U a turn, down that times (100 less D) by 100.
        BandBoat x = Check.boat("q7,7,40,99;b0,1,1;");
        int[] all = {9009, 1, 99, 0, 90};
        for (int what = 0; what <= 4; what++) {
            Check.due("fits without readings", x.fits(0, what), all[what]);
        }
        Check.due("reading", x.reading(1, 300, 150), 1);
        int[] one = {1, 30, 30, 50, 50};
        // e 10: U 29 (down 140 to 160: D 45 to 51), 30 (47 to 53), 31 (49 to 54).
        int[] ten = {20, 29, 31, 45, 54};
        for (int what = 0; what <= 4; what++) {
            Check.due("fits(0, " + what + ")", x.fits(0, what), one[what]);
            Check.due("fits(10, " + what + ")", x.fits(10, what), ten[what]);
            Check.due("fits(0, " + what + ")", x.fits(0, what), one[what]);
        }
        Check.due("reading", x.reading(2, 600, 303), 2);
        int[] three = {2, 30, 30, 49, 50};
        for (int what = 0; what <= 4; what++) {
            Check.due("fits none", x.fits(2, what), what == 0 ? 0 : BandBoat.NONE);
            Check.due("fits(3, " + what + ")", x.fits(3, what), three[what]);
        }
        int[][] wrong = {{-1, 0}, {1000, 0}, {5, -1}, {5, 5}};
        for (int[] row : wrong) {
            Check.due("fits BAD", x.fits(row[0], row[1]), BandBoat.BAD);
        }
        Check.due("fits(999, 1)", x.fits(999, 1), 1);
        Check.due("what is LAID stays", x.pull(100, false), 70);
        Check.due("what is LAID stays", x.pull(100, true), 65);
    }

    /** Each U and D is LAID for itself: cold, age, knots and all. */
    private static void fitsByTrying() {
        String rest = "b1,3,2;c7;a9;";
        BandBoat x = Check.boat("q1,1,1,1;q44,33,2,9;" + rest);
        x.reading(1, x.pull(100, false) + 9, x.pull(100, true));
        x.reading(3, x.pull(300, false), x.pull(300, true) - 30);
        int[] found = {0, 100, -1, 100, -1};
        for (int u = 1; u <= 99; u++) {
            for (int d = 0; d <= 90; d++) {
                BandBoat y = Check.boat("q1,1,1,1;q" + u + "," + d + ",2,9;" + rest);
                boolean near = Math.abs(y.pull(100, false) - x.pull(100, false) - 9) <= 200
                    && Math.abs(y.pull(100, true) - x.pull(100, true)) <= 200
                    && Math.abs(y.pull(300, false) - x.pull(300, false)) <= 200
                    && Math.abs(y.pull(300, true) - x.pull(300, true) + 30) <= 200;
                if (near) {
                    found = new int[] {found[0] + 1, Math.min(found[1], u), Math.max(found[2], u), Math.min(found[3], d),
                        Math.max(found[4], d)};
                }
            }
        }
        Check.due("some fit", found[0] > 2 ? 1 : 0, 1);
        for (int what = 0; what <= 4; what++) {
            Check.due("fits(200, " + what + ")", x.fits(200, what), found[what]);
        }
    }

    private static void mark() {
        BandBoat x = new BandBoat();
        int[][] wrong = {{0, 5}, {100000, 5}, {-1, 5}, {5, -1}, {5, 601}};
        for (int[] row : wrong) {
            Check.due("mark BAD", x.mark(row[0], row[1]), BandBoat.BAD);
        }
        Check.due("count", x.count(3), 0);
        Check.due("mark", x.mark(1, 0), 1);
        Check.due("mark", x.mark(99999, 600), 2);
        Check.due("mark", x.mark(5, 5), 3);
        Check.due("mark", x.mark(5, 5), 4);
        Check.due("mark FULL", x.mark(5, 5), BandBoat.FULL);
        Check.due("mark BAD first", x.mark(0, 5), BandBoat.BAD);
        Check.due("count", x.count(3), 4);
        Check.due("count of readings", x.count(2), 0);
        Check.due("nothing is at once", x.told(50, 0), 0);
    }

    /** Each S and P is LAID for itself. */
    private static void told() {
        told(12, new int[][] {{300, 20}, {2000, 90}});
        told(9, new int[][] {{40, 9}, {300, 20}, {900, 50}, {901, 50}});
        told(0, new int[][] {{30, 1}});
        told(0, new int[][] {{30, 2}});
        told(1, new int[][] {{30, 2}});
        told(1, new int[][] {{30, 3}});
        told(50, new int[][] {{30, 3}});
        told(50, new int[][] {{8000, 600}});
    }

    private static void told(int e, int[][] marks) {
        String stuff = "q40,15,6,30;b0,";
        String rest = "h7,25,3;r1;c4;a2;w8;";
        BandBoat x = Check.boat(stuff + "5,9;p6,7;" + rest);
        for (int[] m : marks) {
            x.mark(m[0], m[1]);
        }
        int[] found = {0, 0, 0, 0, 999, 0, 999, 0, 999, 0};
        for (int s = 1; s <= 8; s++) {
            for (int p = 1; p <= 9; p++) {
                BandBoat y = Check.boat(stuff + s + ",9;p" + p + ",7;" + rest);
                for (int n = 10; n <= 2000; n += 10) {
                    boolean fits = true;
                    for (int[] m : marks) {
                        int when = y.when(n, -1, m[0]);
                        fits &= when >= m[1] - e && when <= m[1] && when > 0;
                    }
                    if (fits) {
                        note(found, s, p, n);
                    }
                }
            }
        }
        Check.due("some are told", found[0] > 3 ? 1 : 0, 1);
        for (int what = 0; what <= 9; what++) {
            Check.due("told(" + e + ", " + what + ")", x.told(e, what), found[what]);
        }
        Check.due("what is LAID stays", x.run(50, 4, 1), Check.boat(stuff + "5,9;p6,7;" + rest).run(50, 4, 1));
        x.forget();
        Check.due("mark", x.mark(99999, 1), 1);
        for (int what = 0; what <= 9; what++) {
            Check.due("none is told", x.told(e, what), what == 0 ? 0 : BandBoat.NONE);
        }
    }

    private static void note(int[] found, int s, int p, int n) {
        found[0]++;
        int[] tried = {s, p, n};
        for (int i = 0; i < 3; i++) {
            found[1 + i] = found[0] == 1 ? tried[i] : found[1 + i];
            found[4 + 2 * i] = Math.min(found[4 + 2 * i], tried[i]);
            found[5 + 2 * i] = Math.max(found[5 + 2 * i], tried[i]);
        }
    }

    private static void toldEdges() {
        BandBoat x = new BandBoat();
        int[][] wrong = {{-1, 0}, {51, 0}, {5, -1}, {5, 10}};
        for (int[] row : wrong) {
            Check.due("told BAD", x.told(row[0], row[1]), BandBoat.BAD);
        }
        int[] all = {2880, 1, 1, 10, 1, 8, 1, 9, 10, 400};
        for (int what = 0; what <= 9; what++) {
            Check.due("told without marks", x.told(0, what), all[what]);
        }
        // The very TENTH of one of them, and the one behind it.
        int when = x.when(100, -1, 1500);
        x.mark(1500, when);
        int at = x.told(0, 0);
        Check.due("told(0)", at > 0 ? 1 : 0, 1);
        x.forget();
        x.mark(1500, when + 1);
        int behind = x.told(0, 0);
        Check.due("told(1) is both together", x.told(1, 0), at + behind);
    }

    private static void forget() {
        BandBoat x = Check.boat("q7,7,40,99;b0,1,1;");
        x.reading(1, 300, 150);
        x.reading(2, 1, 1);
        x.mark(5, 0);
        Check.due("fits", x.fits(0, 0), 0);
        Check.due("told", x.told(0, 0), 0);
        Check.due("forget", x.forget(), 3);
        Check.due("count(2)", x.count(2), 0);
        Check.due("count(3)", x.count(3), 0);
        Check.due("fits", x.fits(0, 0), 9009);
        Check.due("told", x.told(0, 0), 2880);
        Check.due("forget", x.forget(), 0);
        Check.due("reading", x.reading(1, 300, 150), 1);
        Check.due("fits", x.fits(0, 0), 1);
        Check.put(x, "r1;");
        x.lay();
        Check.due("lay forgets", x.fits(0, 0), 9009);
    }
}
