/** Terms of part 4, promises 22 to 28: a method for each sentence that names a bound, at both sides of it. */
public final class BoatEdgeTest {
    private static final int BAD = BandBoat.BAD;
    private static final int NO = BandBoat.NO;
    private static final int FULL = BandBoat.FULL;
    private static final int MIN = Integer.MIN_VALUE;
    private static final int MAX = Integer.MAX_VALUE;
    /** All is let go in the first TENTH; from n turns the PACE is then 20 n, and 20 stays so. */
    private static final String SUDDEN = "q99,0,40,99;b0,8,1;p1,20;h1,1,0;";
    private static final String TEXT = "q30,20,5,20;b0,3,7;p5,8;h9,30,7;r2;c5;a3;w9;";

    public static void main(String[] args) {
        windRanges();
        woundTo40000AtMost();
        woundInTheMiddleOfATurn();
        goRanges();
        goesSoManyTenths();
        itsOwnNumbersGoOn();
        goesBeyondARun();
        goesUnwound();
        weedStopsIt();
        nowRanges();
        nowIsNeverBelow0();
        twoKeptAtMost();
        backToTheLastKept();
        keptIsAllOfIt();
        keptDoesNotHangOnWhatComes();
        countRanges();
        countsOfEmptyAndFull();
        the512thCall();
        Check.end("BoatEdgeTest");
    }

    private static int[] stateOf(BandBoat x) {
        int[] state = new int[6];
        for (int what = 0; what <= 5; what++) {
            state[what] = x.now(what);
        }
        return state;
    }

    private static void state(String name, BandBoat x, int... due) {
        for (int what = 0; what <= 5; what++) {
            Check.due(name + ": now(" + what + ")", x.now(what), due[what]);
        }
    }

    /** 'BAD (n 1 to 400)'. */
    private static void windRanges() {
        for (int n : new int[] {0, -1, -400, 401, MIN, MAX}) {
            BandBoat x = new BandBoat();
            Check.due("wind(" + n + ")", x.wind(n), BAD);
            Check.due("T", x.now(0), 0);
        }
        Check.due("wind(1)", new BandBoat().wind(1), 100);
        Check.due("wind(400)", new BandBoat().wind(400), 40000);
    }

    /** '(T 40000 at most)', 'NO: T would be above 40000.' */
    private static void woundTo40000AtMost() {
        for (int n = 1; n < 400; n += 57) {
            BandBoat x = new BandBoat();
            Check.due("wind(" + n + ")", x.wind(n), 100 * n);
            Check.due("one too many", x.wind(401 - n), NO);
            Check.due("T", x.now(0), 100 * n);
            Check.due("400 more", x.wind(400), NO);
            Check.due("just so many", x.wind(400 - n), 40000);
            Check.due("one more", x.wind(1), NO);
            Check.due("T", x.now(0), 40000);
            Check.due("BAD is first", x.wind(0), BAD);
            Check.due("BAD is first", x.wind(401), BAD);
            Check.due("BAD is first", x.wind(MAX), BAD);
        }
    }

    /** T need not be whole turns: 40000 is just not reached then. */
    private static void woundInTheMiddleOfATurn() {
        BandBoat x = new BandBoat();
        x.wind(400);
        x.go(1, -1);
        // 33460 by 26 is 1286.
        Check.due("T", x.now(0), 38714);
        Check.due("13 turns more", x.wind(13), NO);
        Check.due("T", x.now(0), 38714);
        Check.due("12 turns more", x.wind(12), 39914);
        Check.due("one more", x.wind(1), NO);
        Check.due("T", x.now(0), 39914);
    }

    /** 'goes so many TENTHS (1 to 99)', '(z -1 to 9999)'. */
    private static void goRanges() {
        int[][] wrong = {{0, 5}, {100, 5}, {-1, 5}, {MIN, 5}, {MAX, 5}, {5, -2}, {5, 10000}, {5, MIN}, {5, MAX}, {0, 10000}};
        for (int[] row : wrong) {
            BandBoat x = Check.boat(TEXT);
            x.wind(70);
            x.go(3, 3);
            int[] before = stateOf(x);
            Check.due("go(" + row[0] + ", " + row[1] + ")", x.go(row[0], row[1]), BAD);
            state("behind a refused go", x, before);
        }
        for (int z : new int[] {-1, 0, 9999}) {
            for (int tenths : new int[] {1, 99}) {
                BandBoat x = Check.boat(SUDDEN);
                x.wind(1);
                Check.due("go(" + tenths + ", " + z + ")", x.go(tenths, z), 20 * tenths);
                Check.due("TENTH", x.now(5), tenths);
            }
        }
    }

    /** Every number of TENTHS is as many times one. */
    private static void goesSoManyTenths() {
        for (int tenths = 1; tenths <= 99; tenths++) {
            BandBoat x = Check.boat(TEXT);
            BandBoat y = Check.boat(TEXT);
            x.wind(70);
            y.wind(70);
            int place = 0;
            for (int i = 0; i < tenths; i++) {
                place = y.go(1, 1234);
            }
            Check.due("go(" + tenths + ", 1234)", x.go(tenths, 1234), place);
            state("behind " + tenths, x, stateOf(y));
        }
    }

    private static int wind(long z, long t) {
        long x = 7919 * z + 6151 * t + 1;
        return (int) (x * x % 65521 % 10);
    }

    /** '(its own numbers t go on)': over calls, by other z, by none, at rest. */
    private static void itsOwnNumbersGoOn() {
        BandBoat x = Check.boat(SUDDEN + "w9;");
        int t = 0;
        for (int tenths : new int[] {1, 2, 3, 50, 99}) {
            x.go(tenths, t % 2 == 0 ? -1 : 77);
            t += tenths;
            Check.due("TENTH", x.now(5), t);
            Check.due("wind", x.wind(1), 100);
            x.go(1, 9999);
            Check.due("PACE in TENTH " + t, x.now(1), 20 - wind(9999, t));
            t++;
            Check.due("TENTH", x.now(5), t);
            x.weed();
            Check.due("weed takes no TENTH", x.now(5), t);
        }
        // A RUN's own numbers are from 0 on, wherever THE BOAT is.
        Check.due("a RUN", x.run(1, 9999, 2), 20 - wind(9999, 0));
    }

    /** THE BOAT has no end at 600 or 1200 TENTHS. */
    private static void goesBeyondARun() {
        BandBoat x = Check.boat(SUDDEN);
        x.wind(1);
        for (int i = 1; i <= 15; i++) {
            Check.due("PLACE", x.go(99, -1), 99 * 20 * i);
            Check.due("TENTH", x.now(5), 99 * i);
        }
    }

    /** At rest it stays, but its TENTHS go on. */
    private static void goesUnwound() {
        BandBoat x = Check.boat(TEXT);
        for (int i = 1; i <= 9; i++) {
            Check.due("go unwound", x.go(99, 31), 0);
            state("unwound", x, 0, 0, 0, 10000, 10000000, 99 * i);
        }
    }

    /** 'is stopped (PACE 0) by weed', 'the PACE it had': nothing but the PACE changes. */
    private static void weedStopsIt() {
        BandBoat x = Check.boat("q99,0,1,1;b0,8,1;p9,20;h1,1,20;r1;");
        Check.due("weed at rest", x.weed(), 0);
        state("at rest", x, 0, 0, 0, 10000, 10000000, 0);
        x.wind(400);
        x.go(1, -1);
        x.wind(3);
        int[] before = stateOf(x);
        Check.due("weed at the greatest PACE", x.weed(), 999);
        before[1] = 0;
        state("behind weed", x, before);
        Check.due("weed again", x.weed(), 0);
        state("behind weed again", x, before);
    }

    private static void nowRanges() {
        BandBoat x = new BandBoat();
        for (int what : new int[] {-1, 6, MIN, MAX, 100}) {
            Check.due("now(" + what + ")", x.now(what), BAD);
        }
        state("a new one", x, 0, 0, 0, 10000, 10000000, 0);
    }

    /** TURN and SIDE are told with 10000 and 10000000 more: to the right end 1 is left of them. */
    private static void nowIsNeverBelow0() {
        BandBoat x = Check.boat("q99,0,1,1;b0,8,1;p9,10;h99,1,0;r20;");
        x.wind(346);
        for (int i = 0; i < 40; i++) {
            x.go(99, -1);
        }
        state("far to the right", x, 0, 314, 314 * 3960, 1, 1, 3960);
    }

    /** 'KEPT .. 2 at most': how many; FULL. */
    private static void twoKeptAtMost() {
        BandBoat x = Check.boat(TEXT);
        x.wind(70);
        Check.due("keep", x.keep(), 1);
        Check.due("count(4)", x.count(4), 1);
        x.go(1, -1);
        int[] second = stateOf(x);
        Check.due("keep", x.keep(), 2);
        Check.due("count(4)", x.count(4), 2);
        x.go(1, -1);
        int[] third = stateOf(x);
        for (int i = 0; i < 3; i++) {
            Check.due("a third", x.keep(), FULL);
            Check.due("count(4)", x.count(4), 2);
            state("behind FULL", x, third);
        }
        Check.due("back", x.back(), 1);
        state("the second, not the third", x, second);
        Check.due("there is room again", x.keep(), 2);
        Check.due("a third", x.keep(), FULL);
        Check.due("back", x.back(), 1);
        Check.due("back", x.back(), 0);
        Check.due("keep", x.keep(), 1);
    }

    /** 'As KEPT last: how many are left. NO.' */
    private static void backToTheLastKept() {
        BandBoat x = Check.boat(TEXT);
        x.wind(70);
        x.go(2, 5);
        int[] here = stateOf(x);
        Check.due("back", x.back(), NO);
        state("behind NO", x, here);
        Check.due("keep", x.keep(), 1);
        x.go(9, 5);
        Check.due("back", x.back(), 0);
        state("as KEPT", x, here);
        x.go(9, 5);
        int[] there = stateOf(x);
        for (int i = 0; i < 3; i++) {
            Check.due("back", x.back(), NO);
            Check.due("count(4)", x.count(4), 0);
            state("behind NO", x, there);
        }
    }

    /** 'how it is (T, PACE, PLACE, TURN, SIDE, TENTH)': all six differ when it is called back. */
    private static void keptIsAllOfIt() {
        BandBoat x = Check.boat("q99,0,1,40;b0,8,3;p9,20;h9,1,20;r19;w9;");
        x.wind(40);
        x.go(2, 5);
        x.wind(30);
        int[] first = stateOf(x);
        x.keep();
        x.go(4, 6);
        x.wind(20);
        int[] second = stateOf(x);
        x.keep();
        x.go(40, 7);
        x.wind(5);
        int[] third = stateOf(x);
        for (int what = 0; what <= 5; what++) {
            Check.truth("now(" + what + ") differs", first[what] != second[what] && second[what] != third[what]);
        }
        Check.due("back", x.back(), 1);
        state("the second", x, second);
        Check.due("back", x.back(), 0);
        state("the first", x, first);
        // What is called back goes on as it did then.
        x.go(4, 6);
        x.wind(20);
        state("the second again", x, second);
    }

    /** What is KEPT stays as it is while THE BOAT is wound, goes, is stopped, and while others are KEPT. */
    private static void keptDoesNotHangOnWhatComes() {
        BandBoat x = Check.boat(TEXT);
        x.wind(70);
        x.go(9, 9);
        int[] here = stateOf(x);
        x.keep();
        x.keep();
        x.weed();
        x.wind(9);
        Check.due("back", x.back(), 1);
        state("as KEPT", x, here);
        x.weed();
        x.go(50, 3);
        Check.due("back", x.back(), 0);
        state("as KEPT", x, here);
        x.go(3, 3);
        int[] there = stateOf(x);
        x.keep();
        x.wind(1);
        x.back();
        state("KEPT anew", x, there);
    }

    private static void countRanges() {
        BandBoat x = new BandBoat();
        for (int what : new int[] {-1, 5, MIN, MAX, 100}) {
            Check.due("count(" + what + ")", x.count(what), BAD);
        }
    }

    /** 'How many: 0 STUFFS, 1 bytes of THE TEXT, 2 READINGS, 3 MARKS, 4 KEPT.' */
    private static void countsOfEmptyAndFull() {
        BandBoat x = new BandBoat();
        counts(x, 1, 0, 0, 0, 0);
        Check.put(x, "q1,1,1,1;q2,2,2,2;q3,3,3,3;q4,4,4,4;b3,1,1;");
        counts(x, 1, 43, 0, 0, 0);
        Check.due("lay", x.lay(), 4);
        counts(x, 4, 43, 0, 0, 0);
        Check.put(x, "r1;".repeat(85) + "r1");
        for (int i = 0; i < 7; i++) {
            x.reading(1, 1, 1);
            x.mark(1, 1);
            x.keep();
        }
        counts(x, 4, 300, 6, 4, 2);
        x.back();
        counts(x, 4, 300, 6, 4, 1);
        x.forget();
        counts(x, 4, 300, 0, 0, 1);
        x.wipe();
        counts(x, 4, 0, 0, 0, 1);
        x.back();
        counts(x, 4, 0, 0, 0, 0);
    }

    private static void counts(BandBoat x, int... due) {
        for (int what = 0; what <= 4; what++) {
            Check.due("count(" + what + ")", x.count(what), due[what]);
        }
    }

    /** 'An object is used for at most 512 calls': the last of them is as good as the first. */
    private static void the512thCall() {
        BandBoat x = Check.boat("q99,0,1,1;b0,8,1;p9,10;h99,1,20;w9;");
        PlainBoat y = new PlainBoat();
        y.text = "q99,0,1,1;b0,8,1;p9,10;h99,1,20;w9;";
        y.lay();
        // Six calls were made to LAY it.
        for (int i = 6; i < 511; i++) {
            boolean winds = i % 9 == 0;
            long got = winds ? x.wind(200) : x.go(99, 9999 - i);
            Check.due("call " + i, got, winds ? y.wind(200) : y.go(99, 9999 - i));
        }
        Check.due("the 512th call", x.now(4), y.now(4));
        // What later calls answer is free; that none throws is LANGUAGE.md's rule 7.
        for (int i = 0; i < 600; i++) {
            x.go(99, 9999);
        }
    }
}
