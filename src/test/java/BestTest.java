/** Promises 12 to 16: best, just, span, straight, two. */
public final class BestTest {
    private static final String STUFF = "q30,20,5,20;";
    private static final String REST = "h9,30,7;r2;c5;a3;w9;";

    public static void main(String[] args) {
        best();
        just();
        span();
        straight();
        two();
        Check.end("BestTest");
    }

    /** Each try is LAID for itself. */
    private static void best() {
        BandBoat x = Check.boat(STUFF + "b0,3,7;p5,8;" + REST);
        for (int g : new int[] {1, 2, 6}) {
            int[] found = {-1, 0, 0, 0};
            for (int s = 1; s <= 8; s++) {
                for (int l = 1; l <= 40; l++) {
                    for (int p = 1; p <= 9 && s * l <= g; p++) {
                        BandBoat y = Check.boat(STUFF + "b0," + s + "," + l + ";p" + p + ",8;" + REST);
                        if (y.run(70, -1, 1) > found[0]) {
                            found = new int[] {y.run(70, -1, 1), s, l, p};
                        }
                    }
                }
            }
            for (int what = 0; what <= 3; what++) {
                Check.due("best(" + g + ", 70, " + what + ")", x.best(g, 70, what), found[what]);
            }
        }
        for (int what = 0; what <= 3; what++) {
            Check.due("of several the first", x.best(99, 0, what), what == 0 ? 0 : 1);
        }
        Check.due("what is LAID stays", x.run(70, -1, 1), Check.boat(STUFF + "b0,3,7;p5,8;" + REST).run(70, -1, 1));
        int[][] wrong = {{0, 9, 0}, {100, 9, 0}, {5, -1, 0}, {5, 401, 0}, {5, 9, -1}, {5, 9, 4}};
        for (int[] row : wrong) {
            Check.due("best BAD", x.best(row[0], row[1], row[2]), BandBoat.BAD);
        }
        Check.due("best(1, 400, 1)", x.best(1, 400, 1), 1);
        longest();
        x.wipe();
        Check.put(x, "q20,30,5,9;b0,2,10;");
        x.lay();
        Check.due("best of another", x.best(1, 11, 0), 6569);
    }

    /** Strong rubber in a light boat with much drag: the longest band is best, if there is rubber for it. */
    private static void longest() {
        BandBoat x = Check.boat("q97,1,3,99;b0,1,1;p1,6;h4,82,0;");
        BandBoat y = Check.boat("q97,1,3,99;b0,1,40;p9,6;h4,82,0;");
        int[] due = {y.run(334, -1, 1), 1, 40, 9};
        for (int what = 0; what <= 3; what++) {
            Check.due("best(40, 334, " + what + ")", x.best(40, 334, what), due[what]);
        }
        Check.due("best(39, 334, 2)", x.best(39, 334, 2) < 40 ? 1 : 0, 1);
    }

    private static void just() {
        BandBoat x = Check.boat(STUFF + "b0,3,7;p5,8;" + REST);
        for (int d : new int[] {0, 1, 100, 999, 3000, 7777, 12345, 99999}) {
            int nearest = 0;
            for (int n = 1; n <= 400; n++) {
                if (Math.abs(x.run(n, -1, 1) - d) < Math.abs(x.run(nearest, -1, 1) - d)) {
                    nearest = n;
                }
            }
            Check.due("just(" + d + ", 0)", x.just(d, 0), nearest);
            Check.due("just(" + d + ", 1)", x.just(d, 1), x.run(nearest, -1, 1));
        }
        int[][] wrong = {{-1, 0}, {100000, 0}, {5, -1}, {5, 2}};
        for (int[] row : wrong) {
            Check.due("just BAD", x.just(row[0], row[1]), BandBoat.BAD);
        }
    }

    private static void span() {
        BandBoat x = Check.boat(STUFF + "b0,3,7;p5,8;" + REST);
        for (int z : new int[] {0, 5, 9990, 9991, 9995, 9999}) {
            int least = Integer.MAX_VALUE;
            int most = 0;
            for (int i = 0; i < 10; i++) {
                int place = x.run(70, (z + i) % 10000, 1);
                least = Math.min(least, place);
                most = Math.max(most, place);
            }
            Check.due("span(70, " + z + ", 0)", x.span(70, z, 0), least);
            Check.due("span(70, " + z + ", 1)", x.span(70, z, 1), most);
        }
        spanRoundTheEnd();
        Check.due("span(0, 0, 0)", x.span(0, 0, 0), 0);
        Check.due("span(0, 0, 1)", x.span(0, 0, 1), 0);
        int[][] wrong = {{-1, 0, 0}, {401, 0, 0}, {9, -1, 0}, {9, 10000, 0}, {9, 0, -1}, {9, 0, 2}};
        for (int[] row : wrong) {
            Check.due("span BAD", x.span(row[0], row[1], row[2]), BandBoat.BAD);
        }
    }

    /** Behind z 9999 comes z 0, which is here the least or the greatest for some n. */
    private static void spanRoundTheEnd() {
        BandBoat x = Check.boat(STUFF + "b0,3,7;p5,8;" + REST);
        int told = 0;
        for (int n = 5; n <= 400; n += 5) {
            int least = Integer.MAX_VALUE;
            int most = 0;
            for (int z = 9991; z <= 9999; z++) {
                least = Math.min(least, x.run(n, z, 1));
                most = Math.max(most, x.run(n, z, 1));
            }
            int first = x.run(n, 0, 1);
            told += first < least || first > most ? 1 : 0;
            Check.due("span(" + n + ", 9991, 0)", x.span(n, 9991, 0), Math.min(least, first));
            Check.due("span(" + n + ", 9991, 1)", x.span(n, 9991, 1), Math.max(most, first));
        }
        Check.due("z 0 counts", told > 0 ? 1 : 0, 1);
    }

    private static void straight() {
        String boat = STUFF + "b0,3,7;p5,8;h9,30,7;w9;";
        BandBoat x = Check.boat(boat + "r9;");
        for (int n : new int[] {0, 20, 70, 130, 400}) {
            int rudder = 0;
            int side = 0;
            for (int r = 0; r <= 20; r++) {
                int tried = Check.boat(boat + "r" + r + ";").run(n, -1, 3) - 10000000;
                if (r == 0 || Math.abs(tried) < Math.abs(side)) {
                    rudder = r;
                    side = tried;
                }
            }
            Check.due("straight(" + n + ", 0)", x.straight(n, 0), rudder);
            Check.due("straight(" + n + ", 1)", x.straight(n, 1), side + 10000000);
        }
        Check.due("the rudder stays", x.run(70, -1, 3), Check.boat(boat + "r9;").run(70, -1, 3));
        int[][] wrong = {{-1, 0}, {401, 0}, {9, -1}, {9, 2}};
        for (int[] row : wrong) {
            Check.due("straight BAD", x.straight(row[0], row[1]), BandBoat.BAD);
        }
    }

    private static void two() {
        // One turn is let go in one TENTH: the PACE is 20, then no PUSH (10 less 20), as in a RUN, but a TENTH of T.
        BandBoat x = Check.boat("q99,0,40,99;b0,8,1;p1,20;h1,10,0;");
        Check.due("two(1)", x.two(1), 20 + 16 + 14 + 13 + 12 + 11 + 10 + 9 * 1193);
        // 400 turns: PUSH 8000 by 99 is 80; then 64 of drag by 99 is 0, and 7840 by 99 more is 79.
        BandBoat heavy = Check.boat("q99,0,40,99;b0,8,1;p1,20;h99,10,0;");
        Check.due("run(400)", heavy.run(400, -1, 4), 1);
        Check.due("run(400)", heavy.run(400, -1, 1), 600 * 80);
        int first = 80;
        int second = 80 + ((4000 - 80) * 2 - 64) / 99;
        int place = first;
        for (int pace = second, i = 2; i <= 1200; i++) {
            place += pace;
            pace -= pace * pace * 10 / 1000 / 99;
        }
        Check.due("two(400)", heavy.two(400), place);
        // Never 0: as THE BOAT goes in 1200 TENTHS.
        BandBoat slow = new BandBoat();
        slow.wind(60);
        for (int i = 0; i < 24; i++) {
            slow.go(50, -1);
        }
        Check.due("T is not 0", slow.now(0) > 0 ? 1 : 0, 1);
        Check.due("two(60)", slow.two(60), slow.now(2));
        Check.due("no wind in it", Check.boat("q20,30,5,9;b0,2,10;w9;").two(60), slow.now(2));
        Check.due("two(0)", x.two(0), BandBoat.BAD);
        Check.due("two(401)", x.two(401), BandBoat.BAD);
        Check.due("two(-1)", x.two(-1), BandBoat.BAD);
    }
}
