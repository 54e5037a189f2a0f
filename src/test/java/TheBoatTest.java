/** Promises 22 to 28: wind, go, weed, now, keep, back, count. */
public final class TheBoatTest {
    private static final String HAND = "q10,50,2,6;b0,2,4;p2,10;h5,20,10;r3;c10;a20;w5;";

    public static void main(String[] args) {
        wind();
        go();
        goAsRun();
        weed();
        keepAndBack();
        count();
        Check.end("TheBoatTest");
    }

    private static void state(BandBoat x, int... due) {
        for (int what = 0; what <= 5; what++) {
            Check.due("now(" + what + ")", x.now(what), due[what]);
        }
        Check.due("now(-1)", x.now(-1), BandBoat.BAD);
        Check.due("now(6)", x.now(6), BandBoat.BAD);
    }

    private static void wind() {
        BandBoat x = new BandBoat();
        int[] wrong = {0, -1, 401, Integer.MIN_VALUE, Integer.MAX_VALUE};
        for (int n : wrong) {
            Check.due("wind BAD", x.wind(n), BandBoat.BAD);
        }
        Check.due("wind(1)", x.wind(1), 100);
        Check.due("wind(400)", x.wind(400), BandBoat.NO);
        Check.due("wind(399)", x.wind(399), 40000);
        Check.due("wind(1)", x.wind(1), BandBoat.NO);
        Check.due("wind(401)", x.wind(401), BandBoat.BAD);
        Check.due("now(0)", x.now(0), 40000);
        BandBoat y = new BandBoat();
        Check.due("wind(400)", y.wind(400), 40000);
    }

    private static void go() {
        BandBoat x = Check.boat(HAND);
        int[][] wrong = {{0, 0}, {-1, 0}, {100, 0}, {5, -2}, {5, 10000}};
        for (int[] row : wrong) {
            Check.due("go BAD", x.go(row[0], row[1]), BandBoat.BAD);
        }
        state(x, 0, 0, 0, 10000, 10000000, 0);
        x.wind(40);
        Check.due("go(1, -1)", x.go(1, -1), 6);
        state(x, 3847, 6, 6, 10002, 10000000, 1);
        x.keep();
        Check.due("go(1, -1)", x.go(1, -1), 16);
        state(x, 3700, 10, 16, 10004, 10000000, 2);
        x.back();
        // z 3: the WIND of TENTH 1 is 5.
        Check.due("go(1, 3)", x.go(1, 3), 15);
        state(x, 3700, 9, 15, 10004, 10000000, 2);
        BandBoat still = new BandBoat();
        Check.due("go unwound", still.go(99, 7), 0);
        state(still, 0, 0, 0, 10000, 10000000, 99);
        Check.due("go(1, 9999)", still.go(1, 9999), 0);
        Check.due("its own TENTHS go on", still.now(5), 100);
    }

    /** THE BOAT goes as a RUN does, in whatever steps. */
    private static void goAsRun() {
        BandBoat x = Check.boat("q60,10,5,20;b0,4,9;p3,9;h6,12,5;r4;w9;");
        x.wind(150);
        int[] steps = {1, 98, 7, 93, 99, 99, 99, 99, 5};
        for (int tenths : steps) {
            x.go(tenths, 4321);
        }
        Check.due("TENTHS", x.now(5), x.run(150, 4321, 0));
        Check.due("PLACE", x.now(2), x.run(150, 4321, 1));
        Check.due("SIDE", x.now(4), x.run(150, 4321, 3));
        Check.due("PLACE by another wind", x.run(150, 4322, 1) != x.now(2) ? 1 : 0, 1);
    }

    private static void weed() {
        BandBoat x = Check.boat(HAND);
        Check.due("weed", x.weed(), 0);
        x.wind(40);
        x.go(2, -1);
        Check.due("weed", x.weed(), 10);
        state(x, 3700, 0, 16, 10004, 10000000, 2);
        Check.due("weed", x.weed(), 0);
        // From rest: PUSH is (2 times SPIN by 10) whole again.
        int spin = x.pull(3700, true) / 14;
        int pace = 2 * spin / 10 / 5;
        Check.due("go", x.go(1, -1), 16 + pace);
        Check.due("PACE", x.now(1), pace);
    }

    private static void keepAndBack() {
        BandBoat x = Check.boat(HAND);
        Check.due("back", x.back(), BandBoat.NO);
        x.wind(40);
        x.go(1, -1);
        Check.due("keep", x.keep(), 1);
        x.go(1, -1);
        Check.due("keep", x.keep(), 2);
        x.go(50, 5);
        x.wind(9);
        int[] before = new int[6];
        for (int what = 0; what <= 5; what++) {
            before[what] = x.now(what);
        }
        Check.due("keep", x.keep(), BandBoat.FULL);
        Check.due("count(4)", x.count(4), 2);
        state(x, before);
        Check.due("back", x.back(), 1);
        state(x, 3700, 10, 16, 10004, 10000000, 2);
        x.go(9, 9);
        Check.due("keep", x.keep(), 2);
        x.go(9, 9);
        Check.due("back", x.back(), 1);
        Check.due("TENTH", x.now(5), 11);
        Check.due("back", x.back(), 0);
        state(x, 3847, 6, 6, 10002, 10000000, 1);
        Check.due("back", x.back(), BandBoat.NO);
        state(x, 3847, 6, 6, 10002, 10000000, 1);
        sideAndTurn();
    }

    private static void sideAndTurn() {
        BandBoat x = Check.boat("q99,0,1,1;b0,8,1;p9,20;h1,1,20;");
        x.wind(400);
        x.go(1, -1);
        x.keep();
        int turn = x.now(3);
        int side = x.now(4);
        x.go(40, -1);
        Check.due("SIDE is another", x.now(4) != side ? 1 : 0, 1);
        x.back();
        Check.due("TURN", x.now(3), turn);
        Check.due("SIDE", x.now(4), side);
    }

    private static void count() {
        BandBoat x = Check.boat("q1,1,1,1;q2,2,2,2;q3,3,3,3;b1,1,1;");
        x.reading(1, 1, 1);
        x.reading(1, 1, 1);
        x.mark(1, 1);
        x.keep();
        int[] due = {3, 34, 2, 1, 1};
        for (int what = 0; what <= 4; what++) {
            Check.due("count(" + what + ")", x.count(what), due[what]);
        }
        Check.due("count(-1)", x.count(-1), BandBoat.BAD);
        Check.due("count(5)", x.count(5), BandBoat.BAD);
        Check.put(x, "q4,4,4,4;");
        Check.due("STUFFS are those LAID", x.count(0), 3);
        Check.due("lay", x.lay(), 4);
        Check.due("count(0)", x.count(0), 4);
    }
}
