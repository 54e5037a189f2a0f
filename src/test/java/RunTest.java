/** Promises 6 to 11: pull, run, when, lost, snap, wise. */
public final class RunTest {
    /** Its first TENTHS are worked out by hand below. */
    private static final String HAND = "q10,50,2,6;b0,2,4;p2,10;h5,20,10;r3;c10;a20;w5;";
    /** Lets all go in one TENTH: from n turns, T is 0 behind the first. */
    private static final String SUDDEN = "q99,0,40,99;b0,8,1;p1,20;";

    public static void main(String[] args) {
        pull();
        run();
        runEnds();
        runAsBoat();
        limits();
        when();
        lost();
        snap();
        wise();
        Check.end("RunTest");
    }

    private static void pull() {
        BandBoat x = Check.boat(HAND);
        // The KNOT is at 10 times 2 times 4 by 2: 40.
        int[][] due = {{0, 0, 0}, {1, 0, 0}, {3, 0, 0}, {4, 1, 0}, {40, 18, 7}, {41, 18, 7}, {42, 20, 8}, {100, 99, 39},
            {200, 234, 93}, {4000, 5364, 2145}, {3847, 5157, 2062}};
        for (int[] row : due) {
            Check.due("pull(" + row[0] + ", false)", x.pull(row[0], false), row[1]);
            Check.due("pull(" + row[0] + ", true)", x.pull(row[0], true), row[2]);
        }
        for (boolean down : new boolean[] {false, true}) {
            Check.due("pull(-1)", x.pull(-1, down), BandBoat.BAD);
            Check.due("pull(40001)", x.pull(40001, down), BandBoat.BAD);
            Check.due("pull(min)", x.pull(Integer.MIN_VALUE, down), BandBoat.BAD);
        }
        BandBoat most = Check.boat("q99,0,1,1;b0,8,1;");
        Check.due("the greatest pull", most.pull(40000, false), 3168000 + 6335841);
        Check.due("the greatest pull down", most.pull(40000, true), 3168000 + 6335841);
        // 10 times 1 times 40 by 3 is 133.
        BandBoat odd = Check.boat("q50,0,1,1;b0,3,40;");
        Check.due("at the knot", odd.pull(133, false), 49);
        Check.due("above the knot", odd.pull(135, false), 51);
    }

    private static void run() {
        BandBoat x = Check.boat(HAND);
        x.wind(40);
        Check.due("one TENTH", x.go(1, -1), 6);
        Check.due("two TENTHS", x.go(1, -1), 16);
        Check.due("when 6", x.when(40, -1, 6), 1);
        Check.due("when 7", x.when(40, -1, 7), 2);
        Check.due("when 16", x.when(40, -1, 16), 2);
        Check.due("when 17", x.when(40, -1, 17), 3);
        // z 3: the WIND of TENTH 0 is 0, of TENTH 1 it is 5.
        Check.due("when 15 with wind", x.when(40, 3, 15), 2);
        Check.due("when 16 with wind", x.when(40, 3, 16), 3);
        int[][] wrong = {{-1, 0, 0}, {401, 0, 0}, {9, -2, 0}, {9, 10000, 0}, {9, 0, -1}, {9, 0, 5},
            {Integer.MIN_VALUE, 0, 0}, {9, Integer.MAX_VALUE, 0}, {9, 0, Integer.MIN_VALUE}};
        for (int[] row : wrong) {
            Check.due("run BAD", x.run(row[0], row[1], row[2]), BandBoat.BAD);
        }
        for (int what = 0; what <= 4; what++) {
            Check.due("run of 0 turns", x.run(0, 7, what), what == 3 ? 10000000 : 0);
        }
        Check.due("no z, no wind", x.run(90, -1, 1), Check.boat(HAND + "w0;").run(90, 4, 1));
    }

    private static void runEnds() {
        // Behind TENTH 1: T 0, PUSH 20, PACE 20; then the drag is 4 and the PACE 20, 16, 14, 13, 12, .. till 10.
        BandBoat x = Check.boat(SUDDEN + "h1,10,0;");
        Check.due("till T is 0", x.run(1, -1, 4), 1);
        Check.due("greatest PACE", x.run(1, -1, 2), 20);
        Check.due("never still", x.run(1, -1, 0), 600);
        Check.due("PLACE", x.run(1, -1, 1), 20 + 16 + 14 + 13 + 12 + 11 + 10 + 9 * 593);
        // Too heavy to be moved: still at once behind TENTH 1.
        BandBoat heavy = Check.boat(SUDDEN + "h99,10,0;");
        int[] due = {1, 0, 0, 10000000, 1};
        for (int what = 0; what <= 4; what++) {
            Check.due("heavy: run(1, -1, " + what + ")", heavy.run(1, -1, what), due[what]);
        }
        // The drag of PACE 20 is 39: still behind TENTH 2.
        BandBoat stopped = Check.boat(SUDDEN + "h1,99,0;");
        int[] early = {2, 20, 20, 10000000, 1};
        for (int what = 0; what <= 4; what++) {
            Check.due("stopped: run(1, -1, " + what + ")", stopped.run(1, -1, what), early[what]);
        }
        BandBoat calm = Check.boat("q1,0,40,99;b0,1,40;h1,1,0;");
        Check.due("too weak: tenths", calm.run(1, -1, 0), 600);
        Check.due("too weak: T is never 0", calm.run(1, -1, 4), BandBoat.NONE);
    }

    /** A RUN is what THE BOAT does, TENTH by TENTH: weak and strong winds, light and heavy hulls. */
    private static void runAsBoat() {
        String[] bands = {"q30,30,5,9;b0,2,5;p5,12;", SUDDEN};
        String[] hulls = {"h1,1,9;r5;", "h1,50,0;", "h2,9,20;r20;", "h40,5,3;"};
        for (String band : bands) {
            for (String hull : hulls) {
                for (int w = 0; w <= 9; w++) {
                    for (int n = 3; n <= 250; n += 80) {
                        runAsBoat(Check.boat(band + hull + "w" + w + ";"), n, 13 * n + w);
                    }
                }
            }
        }
    }

    private static void runAsBoat(BandBoat x, int n, int z) {
        x.wind(n);
        int tenths = 0;
        int top = 0;
        while (tenths < 600 && x.now(0) + x.now(1) > 0) {
            x.go(1, z);
            tenths++;
            top = Math.max(top, x.now(1));
        }
        Check.due("run TENTHS", x.run(n, z, 0), tenths);
        Check.due("run PLACE", x.run(n, z, 1), x.now(2));
        Check.due("run PACE", x.run(n, z, 2), top);
        Check.due("run SIDE", x.run(n, z, 3), x.now(4));
    }

    private static void limits() {
        BandBoat fast = Check.boat("q99,0,1,1;b0,8,1;p9,20;h1,1,20;");
        Check.due("PACE is 999 at most", fast.run(400, -1, 2), 999);
        fast.wind(400);
        fast.go(1, -1);
        Check.due("PACE", fast.now(1), 999);
        Check.due("TURN is 9999 at most", fast.now(3), 19999);
        Check.due("SIDE", fast.now(4), 10000000 + 999 * 9999 / 1000);
        // A heavy hull with little drag is at PACE 314 or more for good.
        BandBoat left = Check.boat("q99,0,1,1;b0,8,1;p9,20;h99,1,20;");
        goLong(left);
        Check.due("TURN is 9999 at most", left.now(3), 19999);
        Check.due("SIDE is 9999999 at most", left.now(4), 19999999);
        BandBoat right = Check.boat("q99,0,1,1;b0,8,1;p9,20;h99,1,0;r20;");
        goLong(right);
        Check.due("TURN is -9999 at least", right.now(3), 1);
        Check.due("SIDE is -9999999 at least", right.now(4), 1);
    }

    private static void goLong(BandBoat x) {
        x.wind(400);
        for (int i = 0; i < 60; i++) {
            x.go(99, -1);
        }
        Check.due("TENTH", x.now(5), 60 * 99);
    }

    private static void when() {
        BandBoat x = Check.boat(SUDDEN + "h1,10,0;");
        int[][] due = {{1, 1}, {20, 1}, {21, 2}, {36, 2}, {37, 3}, {50, 3}, {51, 4}, {63, 4}, {64, 5}, {5433, 600},
            {5434, BandBoat.NONE}, {99999, BandBoat.NONE}};
        for (int[] row : due) {
            Check.due("when(1, -1, " + row[0] + ")", x.when(1, -1, row[0]), row[1]);
        }
        Check.due("when of 0 turns", x.when(0, -1, 1), BandBoat.NONE);
        int[][] wrong = {{-1, 0, 1}, {401, 0, 1}, {9, -2, 1}, {9, 10000, 1}, {9, 0, 0}, {9, 0, 100000}, {9, 0, -5}};
        for (int[] row : wrong) {
            Check.due("when BAD", x.when(row[0], row[1], row[2]), BandBoat.BAD);
        }
    }

    private static void lost() {
        BandBoat x = Check.boat(HAND);
        long[][] due = {{0, 0, 0}, {1, 60, 99}, {2, 201, 333}};
        for (long[] row : due) {
            Check.due("lost(" + row[0] + ", 0)", x.lost((int) row[0], 0), row[1]);
            Check.due("lost(" + row[0] + ", 1)", x.lost((int) row[0], 1), row[2]);
        }
        int[][] wrong = {{-1, 0}, {401, 0}, {5, -1}, {5, 2}};
        for (int[] row : wrong) {
            Check.due("lost BAD", x.lost(row[0], row[1]), BandBoat.BAD);
        }
        // The sum over 1 to 400 of (792 times 10 n, and 1584 times (100 n less 1) by 10, cut).
        BandBoat most = Check.boat("q99,90,1,1;b0,8,1;a60;");
        long sum = 0;
        long less = 0;
        for (int n = 1; n <= 400; n++) {
            long up = 7920L * n + 1584L * (100 * n - 1) / 10;
            sum += up;
            less += up - up * 10 / 100 * 40 / 100;
        }
        Check.due("lost(400, 1)", most.lost(400, 1), sum);
        Check.due("lost(400, 0)", most.lost(400, 0), less);
    }

    private static void snap() {
        BandBoat x = Check.boat(HAND);
        int[][] due = {{0, 0}, {1, 0}, {2, 108}, {3, 118}, {91, 998}, {92, 1000}, {400, 1000}, {-1, BandBoat.BAD},
            {401, BandBoat.BAD}, {Integer.MIN_VALUE, BandBoat.BAD}};
        for (int[] row : due) {
            Check.due("snap(" + row[0] + ")", x.snap(row[0]), row[1]);
        }
        // 10 times 6 times 5 by 3 is 100: at it the BAND is safe.
        BandBoat edge = Check.boat("q10,50,2,6;b0,3,5;a1;");
        Check.due("snap at the edge", edge.snap(1), 0);
        Check.due("snap above it", edge.snap(2), 15);
    }

    private static void wise() {
        String[] texts = {HAND, SUDDEN, "q50,10,5,30;b0,4,10;h5,20,0;w9;", "q5,10,5,30;b0,4,10;h5,20,0;a60;", "q1,0,1,1;b0,1,40;"};
        for (String text : texts) {
            BandBoat x = Check.boat(text);
            long most = -1;
            int wisest = 0;
            for (int n = 0; n <= 400; n++) {
                long worth = x.run(n, -1, 1) * (1000L - x.snap(n));
                if (worth > most) {
                    most = worth;
                    wisest = n;
                }
            }
            Check.due("wise", x.wise(), wisest);
            Check.due("wise again", x.wise(), wisest);
            x.wipe();
            Check.put(x, "q20,30,5,9;b0,2,10;");
            x.lay();
            Check.due("wise of another", x.wise(), 60);
        }
    }
}
