/** Terms of parts 1 and 2, promises 6 to 11: a method for each sentence that names a bound, at both sides of it. */
public final class RunEdgeTest {
    /** All is let go in the first TENTH; from n turns the PUSH is then 20 n. */
    private static final String SUDDEN = "q99,0,40,99;b0,8,1;p1,20;";
    /** From 346 turns the PACE is 314 behind the first TENTH, and stays so: its DRAG of 98 is less than the 99 it weighs. */
    private static final String EVEN = "q99,0,1,1;b0,8,1;p9,10;";
    private static final int EVEN_TURNS = 346;
    private static final int NONE = BandBoat.NONE;

    public static void main(String[] args) {
        pullOfAllParts();
        pullAtTheKnot();
        eachPartingIsCut();
        spinNoMoreThanT();
        spinByThePitch();
        pushNotBelow0();
        paceFrom0To999();
        paceIsCutTowards0();
        turnFromEndToEnd();
        sideToTheLeftEnd();
        sideToTheRightEnd();
        windOfEveryZ();
        windOfEachTenth();
        windNoneWithoutZ();
        windOfLateTenths();
        aRunOfNoTurns();
        aRunEndsAtRest();
        aRunOf600Tenths();
        tIsZeroFirst();
        whenAtItsEdges();
        lostAtItsEdges();
        snapAtItsEdges();
        wiseAtItsEdges();
        Check.end("RunEdgeTest");
    }

    private static void pulls(String text, int parts, int up, int down) {
        BandBoat x = Check.boat(text);
        Check.due(text + " pull(" + parts + ", false)", x.pull(parts, false), up);
        Check.due(text + " pull(" + parts + ", true)", x.pull(parts, true), down);
    }

    /** 'PULL of T PARTS (0 to 40000)'. */
    private static void pullOfAllParts() {
        BandBoat x = new BandBoat();
        for (boolean down : new boolean[] {false, true}) {
            Check.due("pull(0)", x.pull(0, down), 0);
            Check.due("pull(40000)", x.pull(40000, down), down ? 33460 : 47800);
            for (int parts : new int[] {-1, 40001, Integer.MIN_VALUE, Integer.MAX_VALUE}) {
                Check.due("pull(" + parts + ")", x.pull(parts, down), BandBoat.BAD);
            }
        }
        // The least and the greatest PULL that a TEXT can tell: 792 by 10, and 1584 times 39999 by 10.
        pulls("q1,90,40,99;b0,1,40;c30;a60;", 40000, 154, 6);
        pulls("q99,0,1,1;b0,8,1;", 40000, 3168000 + 6335841, 3168000 + 6335841);
    }

    /** 'if T is above 10 K L by S (a KNOT)': at it there is none; the KNOT is cut, too. */
    private static void pullAtTheKnot() {
        // 10 by 8 is 1: at 2 there is a PART above it, 158 more.
        String tight = "q99,0,1,1;b0,8,1;";
        pulls(tight, 1, 79, 79);
        pulls(tight, 2, 158 + 158, 316);
        // 10 times 40 times 40 is 16000: 3 PARTS above it pull 594 by 400 more.
        String loose = "q99,0,40,99;b0,1,40;";
        pulls(loose, 16000, 3960, 3960);
        pulls(loose, 16002, 3960, 3960);
        pulls(loose, 16003, 3960 + 1, 3961);
        // 10 times 5 times 10 by 2 is 250: 250 times 40 by 100, then 80 a hundredth more.
        pulls("q20,0,5,9;b0,2,10;", 250, 100, 100);
        pulls("q20,0,5,9;b0,2,10;", 251, 100, 100);
        pulls("q20,0,5,9;b0,2,10;", 252, 100 + 1, 101);
    }

    /** 'All is cut towards 0 wherever it is divided.' */
    private static void eachPartingIsCut() {
        // 179 times 70 by 100 is 125, times 10 by 100 is 12, times 40 by 100 is 4; all at once it would be 5.
        pulls("q10,90,40,99;b0,1,1;c30;a60;", 179, 125, 4);
        // 49 times 102 by 100 is 49, 98 times 2 by 100 is 1; all at once it would be 51.
        pulls("q49,0,1,1;b0,1,10;", 102, 49 + 1, 50);
    }

    /** 'SPIN: .. no more than T'. */
    private static void spinNoMoreThanT() {
        BandBoat x = Check.boat(SUDDEN + "h1,1,0;");
        Check.truth("more would go off", x.pull(100, true) / 11 > 100);
        x.wind(1);
        x.go(1, -1);
        Check.due("T", x.now(0), 0);
        Check.due("PACE by a SPIN of 100", x.now(1), 20);
        x.go(1, -1);
        Check.due("T stays 0", x.now(0), 0);
    }

    /** 'SPIN: that by (10, and P times P, together)': with pitch 1 and 9. */
    private static void spinByThePitch() {
        for (int p = 1; p <= 9; p++) {
            BandBoat x = Check.boat("q20,30,5,9;b0,2,10;p" + p + ",10;");
            x.wind(400);
            x.go(1, -1);
            Check.due("T behind a TENTH, pitch " + p, x.now(0), 40000 - 33460 / (10 + p * p));
        }
    }

    /** 'PUSH: P times SPIN by 10, less the PACE, 0 at least'. */
    private static void pushNotBelow0() {
        BandBoat x = Check.boat(SUDDEN + "h1,1,20;");
        x.wind(1);
        x.go(1, -1);
        Check.due("PACE", x.now(1), 20);
        Check.due("TURN", x.now(3), 10000 + 20 * 20 / 100);
        x.go(5, -1);
        Check.due("PACE stays", x.now(1), 20);
        Check.due("TURN stays", x.now(3), 10000 + 4);
        // Wound again: 10 less 20 is below 0, 20 less 20 is 0, 30 less 20 is 10, times 2.
        for (int n = 1; n <= 3; n++) {
            x.keep();
            x.wind(n);
            x.go(1, -1);
            Check.due("PACE behind " + n + " turns more", x.now(1), n == 3 ? 40 : 20);
            x.back();
        }
    }

    /** 'PACE is .. 0 at least, 999 at most.' */
    private static void paceFrom0To999() {
        int[][] rows = {{111, 9, 999}, {110, 9, 990}, {100, 10, 999}, {112, 9, 999}, {400, 20, 999}, {199, 5, 995}, {333, 3, 999}};
        for (int[] row : rows) {
            BandBoat x = Check.boat("q99,0,40,99;b0,8,1;p1," + row[1] + ";h1,99,0;");
            Check.due("greatest PACE of " + row[0], x.run(row[0], -1, 2), row[2]);
            x.wind(row[0]);
            Check.due("PLACE", x.go(1, -1), row[2]);
            Check.due("PACE", x.now(1), row[2]);
            Check.due("its DRAG stops it", x.go(1, -1), row[2]);
            Check.due("PACE", x.now(1), 0);
        }
        // PACE 10 loses 9 by its DRAG, PACE 1 nothing.
        BandBoat slow = Check.boat("q99,0,40,99;b0,8,1;p1,10;h1,90,0;");
        slow.wind(1);
        int[] paces = {10, 1, 1};
        for (int pace : paces) {
            slow.go(1, -1);
            Check.due("PACE", slow.now(1), pace);
        }
        BandBoat still = new BandBoat();
        Check.due("the wind drives no boat back", still.go(99, 3), 0);
        BandBoat windy = Check.boat("q20,30,5,9;b0,2,10;h1,1,0;w9;");
        Check.due("the wind drives no boat back", windy.go(99, 3), 0);
        Check.due("PACE", windy.now(1), 0);
    }

    /** '(PUSH less DRAG) by M more', cut towards 0 above and below it. */
    private static void paceIsCutTowards0() {
        BandBoat x = Check.boat(SUDDEN + "h10,10,0;");
        Check.due("a DRAG of 4 by 10 is 0", x.run(10, -1, 1), 600 * 20);
        Check.due("a PUSH of 20 by 3 is 6", Check.boat(SUDDEN + "h3,10,0;").run(1, -1, 1), 600 * 6);
        BandBoat even = Check.boat(EVEN + "h99,1,0;");
        Check.due("a DRAG of 98 by 99 is 0", even.run(EVEN_TURNS, -1, 1), 600 * 314);
        // 31230 by 99 is 315, its DRAG 99: then 314.
        Check.due("a DRAG of 99 by 99 is 1", even.run(347, -1, 1), 315 + 599 * 314);
    }

    /** 'the TURN is .. from -9999 to 9999'. */
    private static void turnFromEndToEnd() {
        BandBoat left = Check.boat(EVEN + "h99,1,20;");
        left.wind(EVEN_TURNS);
        left.go(1, -1);
        Check.due("TURN of a PUSH of 31140", left.now(3), 10000 + 6228);
        left.wind(EVEN_TURNS);
        left.go(1, -1);
        Check.due("TURN is 9999 at most", left.now(3), 19999);
        left.go(99, -1);
        Check.due("TURN stays", left.now(3), 19999);
        int[][] rows = {{370, 15, 19990}, {371, 15, 19999}, {385, 14, 19702}};
        for (int[] row : rows) {
            BandBoat x = Check.boat("q99,0,1,1;b0,8,1;p9," + row[1] + ";h99,1,20;");
            x.wind(row[0]);
            x.go(1, -1);
            Check.due("TURN", x.now(3), row[2]);
        }
        BandBoat right = Check.boat(EVEN + "h99,1,0;r20;");
        right.wind(EVEN_TURNS);
        right.go(99, -1);
        right.go(62, -1);
        Check.due("TURN behind 161 TENTHS of 62", right.now(3), 10000 - 9982);
        right.go(1, -1);
        Check.due("TURN is -9999 at least", right.now(3), 1);
        right.go(99, -1);
        Check.due("TURN stays", right.now(3), 1);
        // Less than 100 to either side is no TURN: PACE 99, 100 to the right, PUSH 80, 100 to the left.
        turnOf("h20,1,0;r1;", 99, 10000);
        turnOf("h20,1,0;r1;", 100, 9999);
        turnOf("h1,99,1;", 4, 10000);
        turnOf("h1,99,1;", 5, 10001);
    }

    private static void turnOf(String hull, int n, int due) {
        BandBoat x = Check.boat(SUDDEN + hull);
        x.wind(n);
        x.go(1, -1);
        Check.due(hull + " TURN of " + n, x.now(3), due);
    }

    /** 'the SIDE is .. to 9999999': 314 times 6228 by 1000 is 1955 a TENTH. */
    private static void sideToTheLeftEnd() {
        BandBoat x = Check.boat(EVEN + "h99,1,20;");
        x.wind(EVEN_TURNS);
        for (int i = 0; i < 51; i++) {
            x.go(99, -1);
        }
        x.go(66, -1);
        Check.due("SIDE behind 5115 TENTHS", x.now(4), 10000000 + 5115 * 1955);
        x.go(1, -1);
        Check.due("SIDE is 9999999 at most", x.now(4), 19999999);
        x.go(99, -1);
        Check.due("SIDE stays", x.now(4), 19999999);
        Check.due("TENTH", x.now(5), 5215);
    }

    /** 'the SIDE is .. from -9999999', TENTH by TENTH as told. */
    private static void sideToTheRightEnd() {
        BandBoat x = Check.boat(EVEN + "h99,1,0;r20;");
        x.wind(EVEN_TURNS);
        int turn = 0;
        int side = 0;
        int capped = 0;
        for (int i = 0; i < 34 && capped < 2; i++) {
            x.go(99, -1);
            for (int k = 0; k < 99; k++) {
                turn = Math.max(-9999, turn - 62);
                side = Math.max(-9999999, side + 314 * turn / 1000);
            }
            Check.due("SIDE", x.now(4), 10000000 + side);
            capped += side == -9999999 ? 1 : 0;
        }
        Check.due("SIDE is -9999999 at least", x.now(4), 1);
        // The last one ahead of the end, TENTH by TENTH.
        BandBoat y = Check.boat(EVEN + "h99,1,0;r20;");
        y.wind(EVEN_TURNS);
        for (int i = 0; i < 33; i++) {
            y.go(99, -1);
        }
        for (int i = 0; i < 99 && y.now(4) > 1; i++) {
            int before = y.now(4);
            y.go(1, -1);
            Check.due("SIDE", y.now(4), Math.max(1, before - 3139));
        }
        Check.due("SIDE is -9999999 at least", y.now(4), 1);
    }

    private static int wind(long z, long t, int w) {
        long x = 7919 * z + 6151 * t + 1;
        return (int) (x * x % 65521 % (w + 1));
    }

    /** 'The WIND by z (0 to 9999)': in TENTH 0 the PACE is 20 less the WIND. */
    private static void windOfEveryZ() {
        BandBoat x = null;
        for (int z = 0; z <= 9999; z++) {
            x = z % 400 == 0 ? Check.boat(SUDDEN + "h1,1,0;w9;") : x;
            Check.due("greatest PACE by z " + z, x.run(1, z, 2), 20 - wind(z, 0, 9));
        }
        for (int w = 0; w <= 9; w++) {
            BandBoat y = Check.boat(SUDDEN + "h1,1,0;w" + w + ";");
            int least = 20;
            int most = 0;
            for (int z = 9700; z <= 9999; z++) {
                int pace = y.run(1, z, 2);
                Check.due("greatest PACE by z " + z + ", W " + w, pace, 20 - wind(z, 0, w));
                least = Math.min(least, pace);
                most = Math.max(most, pace);
            }
            Check.due("the WIND is W at most", least, 20 - w);
            Check.due("the WIND is 0 at least", most, 20);
        }
    }

    /** The WIND of TENTH t, its number from 0 on: in a RUN, and as THE BOAT goes. */
    private static void windOfEachTenth() {
        for (int w = 1; w <= 9; w++) {
            for (int z : new int[] {0, 1, 77, 9998, 9999}) {
                windOfEachTenth(w, z);
            }
        }
    }

    private static void windOfEachTenth(int w, int z) {
        BandBoat x = Check.boat(SUDDEN + "h1,1,0;w" + w + ";");
        x.wind(10);
        int pace = 200 - wind(z, 0, w);
        int place = pace;
        int tenths = 1;
        x.go(1, z);
        for (int t = 1; t < 120; t++) {
            Check.due("PACE ahead of TENTH " + t, x.now(1), pace);
            tenths += pace > 0 ? 1 : 0;
            pace = Math.max(0, pace - pace * pace / 1000 - wind(z, t, w));
            place += pace;
            Check.due("PLACE behind TENTH " + t, x.go(1, z), place);
            if (pace > 0) {
                Check.due("WHEN of " + place, x.when(10, z, place), t + 1);
            }
        }
        Check.due("it lies still", x.now(1), 0);
        Check.due("TENTHS of the RUN", x.run(10, z, 0), tenths);
        Check.due("PLACE of the RUN", x.run(10, z, 1), place);
    }

    /** 'by z -1 none'. */
    private static void windNoneWithoutZ() {
        BandBoat x = Check.boat(SUDDEN + "h1,1,0;w9;");
        Check.due("greatest PACE", x.run(1, -1, 2), 20);
        Check.due("PLACE", x.run(1, -1, 1), 600 * 20);
        x.wind(1);
        Check.due("PLACE", x.go(99, -1), 99 * 20);
        BandBoat y = Check.boat(SUDDEN + "h1,1,0;w0;");
        for (int z = 0; z <= 400; z++) {
            Check.due("W 0: PLACE by z " + z, y.run(1, z, 1), 600 * 20);
        }
    }

    /** As late as 512 calls can make it: x times x is beyond an int's range by far. */
    private static void windOfLateTenths() {
        BandBoat x = Check.boat(SUDDEN + "h1,1,0;w9;");
        int t = 0;
        for (int i = 0; i < 490; i++) {
            x.go(99, 9999);
            t += 99;
        }
        x.wind(1);
        int pace = 20 - wind(9999, t, 9);
        x.go(1, 9999);
        Check.due("PACE in TENTH " + t, x.now(1), pace);
        x.go(1, 9999);
        Check.due("PACE in TENTH " + (t + 1), x.now(1), Math.max(0, pace - wind(9999, t + 1, 9)));
        Check.due("TENTH", x.now(5), 490 * 99 + 2);
    }

    /** 'from n turns (0 to 400)', '(0: at once)'. */
    private static void aRunOfNoTurns() {
        int[] due = {0, 0, 0, 10000000, 0};
        for (int z : new int[] {-1, 0, 9999}) {
            BandBoat x = Check.boat(SUDDEN + "h1,1,20;r20;w9;");
            for (int what = 0; what <= 4; what++) {
                Check.due("run(0, " + z + ", " + what + ")", x.run(0, z, what), due[what]);
            }
            Check.due("when(0, " + z + ", 1)", x.when(0, z, 1), NONE);
            Check.due("run(400)", x.run(400, z, 4), 1);
            for (int what = 0; what <= 4; what++) {
                Check.due("run(-1, " + z + ", " + what + ")", x.run(-1, z, what), BandBoat.BAD);
                Check.due("run(401, " + z + ", " + what + ")", x.run(401, z, what), BandBoat.BAD);
            }
        }
    }

    /** 'till T is 0 and PACE is 0': both. */
    private static void aRunEndsAtRest() {
        // T is 0 and PACE is 0 behind TENTH 1, 2, and never.
        int[][] rows = {{99, 10, 1, 0}, {1, 99, 2, 20}, {1, 1, 600, 12000}};
        for (int[] row : rows) {
            BandBoat x = Check.boat(SUDDEN + "h" + row[0] + "," + row[1] + ",0;");
            Check.due("TENTHS", x.run(1, -1, 0), row[2]);
            Check.due("PLACE", x.run(1, -1, 1), row[3]);
            Check.due("T is 0 behind", x.run(1, -1, 4), 1);
        }
        // PACE is 0 all along, but T is not.
        BandBoat held = Check.boat("q1,0,40,99;b0,1,40;h99,99,0;");
        Check.due("TENTHS", held.run(1, -1, 0), 600);
        Check.due("greatest PACE", held.run(1, -1, 2), 0);
        Check.due("T is never 0", held.run(1, -1, 4), NONE);
    }

    /** 'to 600 TENTHS at most'. */
    private static void aRunOf600Tenths() {
        BandBoat x = Check.boat(EVEN + "h99,1,20;");
        Check.due("TENTHS", x.run(EVEN_TURNS, -1, 0), 600);
        Check.due("PLACE", x.run(EVEN_TURNS, -1, 1), 600 * 314);
        Check.due("greatest PACE", x.run(EVEN_TURNS, -1, 2), 314);
        Check.due("SIDE", x.run(EVEN_TURNS, -1, 3), 10000000 + 600 * 1955);
        BandBoat right = Check.boat(SUDDEN + "h1,1,0;r20;");
        // TURN is -4 a TENTH, so that the SIDE is the sum of 20 times 4 k by 1000.
        int side = 0;
        for (int k = 1; k <= 600; k++) {
            side -= 20 * 4 * k / 1000;
        }
        Check.due("SIDE to the right", right.run(1, -1, 3), 10000000 + side);
        // PUSH 31140 in TENTH 0 to the left, 18 (314 times 6 by 100) a TENTH to the right.
        int turn = (31140 * 20 - 314 * 6) / 100;
        side = 314 * turn / 1000;
        for (int k = 2; k <= 600; k++) {
            turn -= 18;
            side += 314 * turn / 1000;
        }
        Check.due("SIDE to both", Check.boat(EVEN + "h99,1,20;r6;").run(EVEN_TURNS, -1, 3), 10000000 + side);
    }

    /** 'behind how many TENTHS T is 0 first (0: at once); none.' */
    private static void tIsZeroFirst() {
        // 55 times 2 by 10 is 11 a PART: by 11 just T. With 54 a PART stays for good.
        BandBoat all = Check.boat("q55,0,40,99;b0,2,1;p1,20;");
        BandBoat most = Check.boat("q54,0,40,99;b0,2,1;p1,20;");
        Check.due("T is 0 behind", all.run(1, -1, 4), 1);
        Check.due("a PART stays", most.run(1, -1, 4), NONE);
        most.wind(1);
        int[] left = {2, 1, 1};
        for (int t : left) {
            most.go(1, -1);
            Check.due("T", most.now(0), t);
        }
        Check.due("at once", most.run(0, -1, 4), 0);
    }

    /** 'the first TENTH behind which the PLACE is d (1 to 99999) or more; none.' */
    private static void whenAtItsEdges() {
        BandBoat even = Check.boat(EVEN + "h99,1,0;");
        int[][] rows = {{1, 1}, {314, 1}, {315, 2}, {628, 2}, {629, 3}, {318 * 314, 318}, {318 * 314 + 1, 319}, {99999, 319},
            {0, BandBoat.BAD}, {100000, BandBoat.BAD}};
        for (int[] row : rows) {
            Check.due("when of " + row[0], even.when(EVEN_TURNS, -1, row[0]), row[1]);
        }
        BandBoat slow = Check.boat(SUDDEN + "h1,1,0;");
        Check.due("at the very end", slow.when(1, -1, 12000), 600);
        Check.due("one too far", slow.when(1, -1, 12001), NONE);
        Check.due("ahead of the last TENTH", slow.when(1, -1, 11980), 599);
        BandBoat stopped = Check.boat(SUDDEN + "h1,99,0;");
        Check.due("where it stopped", stopped.when(1, -1, 20), 1);
        Check.due("behind where it stopped", stopped.when(1, -1, 21), NONE);
        Check.due("no turns", stopped.when(0, -1, 1), NONE);
    }

    /** 'LOST of n turns (0 to 400)': 'the sum over turns 1 to n'. */
    private static void lostAtItsEdges() {
        for (String text : new String[] {"q20,30,5,9;b0,2,10;", "q99,90,1,1;b0,8,1;c30;a60;", "q1,0,40,99;b0,1,40;", "q99,0,1,1;b0,8,1;"}) {
            BandBoat x = Check.boat(text);
            BandBoat y = Check.boat(text);
            long up = 0;
            long less = 0;
            for (int n = 0; n <= 400; n++) {
                // The object may be asked 512 times.
                y = n % 200 == 0 ? Check.boat(text) : y;
                up += n == 0 ? 0 : y.pull(100 * n, false);
                less += n == 0 ? 0 : y.pull(100 * n, false) - y.pull(100 * n, true);
                if (n < 3 || n > 397) {
                    Check.due(text + " lost(" + n + ", 0)", x.lost(n, 0), less);
                    Check.due(text + " lost(" + n + ", 1)", x.lost(n, 1), up);
                }
            }
            Check.due("lost(-1, 0)", x.lost(-1, 0), BandBoat.BAD);
            Check.due("lost(401, 1)", x.lost(401, 1), BandBoat.BAD);
            Check.due("lost(5, -1)", x.lost(5, -1), BandBoat.BAD);
            Check.due("lost(5, 2)", x.lost(5, 2), BandBoat.BAD);
        }
        Check.due("nothing is lost", Check.boat("q99,0,1,1;b0,8,1;").lost(400, 0), 0);
    }

    /** '0, if 100 n is no more than 10 B L by S; else (100 n less that) by 10, and 5 for each day, 1000 at most.' */
    private static void snapAtItsEdges() {
        int[][] rows = {
            // B, S, L, days, n, SNAP
            {99, 1, 40, 60, 396, 0}, {99, 1, 40, 60, 397, 310}, {99, 1, 40, 0, 397, 10}, {99, 1, 40, 0, 400, 40},
            {1, 8, 1, 60, 0, 0}, {1, 8, 1, 60, 1, 309}, {1, 8, 1, 0, 1, 9}, {1, 8, 1, 0, 100, 999}, {1, 8, 1, 0, 101, 1000},
            {1, 8, 1, 0, 400, 1000}, {10, 1, 1, 0, 1, 0}, {10, 1, 1, 1, 1, 0}, {10, 1, 1, 0, 2, 10}, {10, 1, 1, 1, 2, 15},
            {10, 1, 1, 0, 100, 990}, {10, 1, 1, 0, 101, 1000}, {10, 1, 1, 2, 100, 1000}, {10, 1, 1, 1, 100, 995},
            {10, 1, 1, 60, 71, 1000}, {10, 1, 1, 60, 70, 990}, {9, 1, 1, 0, 1, 1}, {9, 7, 7, 4, 1, 21}};
        for (int[] r : rows) {
            String text = "q5,5,1," + r[0] + ";b0," + r[1] + "," + r[2] + ";a" + r[3] + ";";
            Check.due(text + " snap(" + r[4] + ")", Check.boat(text).snap(r[4]), r[5]);
        }
        Check.due("snap(-1)", new BandBoat().snap(-1), BandBoat.BAD);
        Check.due("snap(401)", new BandBoat().snap(401), BandBoat.BAD);
    }

    /** 'the n (0 to 400) by which PLACE of its RUN times (1000 less SNAP) is greatest, the least.' */
    private static void wiseAtItsEdges() {
        Check.due("all are 0", Check.boat("q1,0,1,1;b0,1,40;h99,99,0;").wise(), 0);
        Check.due("the greatest n", Check.boat("q32,22,32,96;b0,1,40;p1,19;h81,40,11;r18;").wise(), 400);
        // Here 401 turns would be wiser than all.
        Check.due("400 at most", Check.boat("q21,29,40,99;b0,1,35;p7,16;h67,41,0;").wise(), 396);
        Check.due("400 at most", Check.boat("q16,11,40,99;b0,1,38;p3,17;h66,29,0;").wise(), 394);
        // By 214 turns and more than one n behind it the PLACE is 19130, and no band snaps yet.
        BandBoat ties = Check.boat("q59,8,8,60;b0,1,36;p2,19;h45,43,13;");
        Check.due("the least", ties.wise(), 214);
        int more = 0;
        for (int n = 0; n <= 400; n++) {
            long worth = ties.run(n, -1, 1) * (1000L - Check.boat("q59,8,8,60;b0,1,36;a0;").snap(n));
            Check.truth("none is wiser than 214: " + n, worth <= 19130000L);
            more += worth == 19130000L ? 1 : 0;
        }
        Check.due("as wise as 214", more, 3);
        // The WIND does not count: no z is told.
        Check.due("without WIND", Check.boat("q59,8,8,60;b0,1,36;p2,19;h45,43,13;w9;").wise(), 214);
    }
}
