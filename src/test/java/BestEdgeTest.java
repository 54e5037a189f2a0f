/** Terms of part 3 up to TWO, promises 12 to 16: a method for each sentence that names a bound, at both sides of it. */
public final class BestEdgeTest {
    private static final int BAD = BandBoat.BAD;
    private static final String STUFF = "q30,20,5,20;";
    private static final String REST = "h9,30,7;r2;c5;a3;w9;";
    private static final String WINDY = STUFF + "b0,3,7;p5,8;" + REST;
    /** All is let go in the first TENTH; from n turns the PUSH is then 20 n. */
    private static final String SUDDEN = "q99,0,40,99;b0,8,1;p1,20;";

    public static void main(String[] args) {
        bestRanges();
        bestOfAllBands();
        bestOfSoMuchRubber();
        bestOfSeveralTheFirst();
        bestIsWithoutWind();
        justRanges();
        justNearestTheLeast();
        justAtTheEnds();
        spanRanges();
        spanOfTen();
        spanRoundTheEnd();
        straightRanges();
        straightFromEndToEnd();
        straightTheLowest();
        twoRanges();
        twoOf1200Tenths();
        twoWindsAgainOnce();
        noOtherIsWoundAgain();
        aSearchIsOfWhatIsLaid();
        Check.end("BestEdgeTest");
    }

    private static void bests(String text, int g, int n, int... due) {
        BandBoat x = Check.boat(text);
        for (int what = 0; what <= 3; what++) {
            Check.due(text + " best(" + g + ", " + n + ", " + what + ")", x.best(g, n, what), due[what]);
        }
    }

    private static int place(String text, int n) {
        return Check.boat(text).run(n, -1, 1);
    }

    /** 'BEST for g of rubber (1 to 99), n turns' (0 to 400). */
    private static void bestRanges() {
        BandBoat x = new BandBoat();
        int[][] wrong = {{0, 60, 0}, {0, 60, 1}, {0, 60, 2}, {0, 60, 3}, {100, 60, 0}, {100, 60, 1}, {-1, 60, 1}, {5, -1, 0},
            {5, -1, 1}, {5, 401, 0}, {5, 401, 3}, {5, 60, -1}, {5, 60, 4}};
        for (int[] row : wrong) {
            Check.due("best(" + row[0] + ", " + row[1] + ", " + row[2] + ")", x.best(row[0], row[1], row[2]), BAD);
        }
        // The same, asked for behind a search that answers.
        Check.truth("best(5, 60, 0)", x.best(5, 60, 0) > 0);
        for (int[] row : wrong) {
            Check.due("best(" + row[0] + ", " + row[1] + ", " + row[2] + ")", x.best(row[0], row[1], row[2]), BAD);
        }
        Check.truth("best(1, 400, 0)", x.best(1, 400, 0) > 0);
        Check.due("best(99, 0, 0)", x.best(99, 0, 0), 0);
    }

    /** 'of all S (1 to 8), L (1 to 40) by which S times L is g or less, and P (1 to 9)': each is LAID and run. */
    private static void bestOfAllBands() {
        for (int n : new int[] {1, 60, 400}) {
            int[] found = {-1, 0, 0, 0};
            for (int s = 1; s <= 8; s++) {
                for (int l = 1; l <= 40 && s * l <= 99; l++) {
                    for (int p = 1; p <= 9; p++) {
                        int place = place(STUFF + "b0," + s + "," + l + ";p" + p + ",8;" + REST, n);
                        found = place > found[0] ? new int[] {place, s, l, p} : found;
                    }
                }
            }
            bests(WINDY, 99, n, found);
        }
        // One band alone: S 1, L 1.
        int[] found = {-1, 1, 1, 0};
        for (int p = 1; p <= 9; p++) {
            int place = place(STUFF + "b0,1,1;p" + p + ",8;" + REST, 60);
            found = place > found[0] ? new int[] {place, 1, 1, p} : found;
        }
        bests(WINDY, 1, 60, found);
    }

    /** 'S times L is g or less': g itself, and not one more. */
    private static void bestOfSoMuchRubber() {
        // More strands are better here: as many as there is rubber for, 8 at most.
        BandBoat x = Check.boat("q1,2,33,76;b0,1,1;p1,6;h8,9,3;");
        for (int g = 1; g <= 12; g++) {
            Check.due("S of " + g, x.best(g, 60, 1), Math.min(g, 8));
            Check.due("L of " + g, x.best(g, 60, 2), 1);
        }
        Check.due("S of 99", x.best(99, 60, 1), 8);
        // A longer band is better here, 40 at most.
        BandBoat y = Check.boat("q97,1,3,99;b0,1,1;p1,6;h4,82,0;");
        Check.due("L of 40", y.best(40, 334, 2), 40);
        Check.truth("L of 39", y.best(39, 334, 1) * y.best(39, 334, 2) <= 39);
        for (int g = 1; g <= 99; g++) {
            Check.truth("S times L of " + g, y.best(g, 334, 1) * y.best(g, 334, 2) <= g && y.best(g, 334, 2) <= 40);
        }
        // Just 8 times 5 and 5 times 8.
        bests("q59,0,22,91;b0,6,22;p5,5;h27,14,8;", 40, 203, place("q59,0,22,91;b0,8,5;p9,5;h27,14,8;", 203), 8, 5, 9);
        bests("q39,22,23,38;b0,5,10;p7,12;h69,81,6;", 40, 245, place("q39,22,23,38;b0,5,8;p9,12;h69,81,6;", 245), 5, 8, 9);
    }

    /** 'of several the first by S, then L, then P'. */
    private static void bestOfSeveralTheFirst() {
        bests(WINDY, 99, 0, 0, 1, 1, 1);
        String two = "q14,13,11,21;b0,%d,%d;p%d,11;h7,45,4;";
        ties(two, 8, 28, new int[] {2, 1, 9}, new int[] {4, 2, 9});
        String length = "q97,16,10,91;b0,%d,%d;p%d,14;h5,34,20;";
        ties(length, 12, 62, new int[] {1, 5, 9}, new int[] {1, 6, 9});
        String pitch = "q1,2,33,76;b0,%d,%d;p%d,6;h8,9,3;";
        ties(pitch, 2, 19, new int[] {2, 1, 3}, new int[] {2, 1, 4});
    }

    private static void ties(String text, int g, int n, int[] first, int[] later) {
        int place = place(String.format(text, first[0], first[1], first[2]), n);
        Check.due("as far", place(String.format(text, later[0], later[1], later[2]), n), place);
        // What is LAID is the later one: it is not held for the best.
        bests(String.format(text, later[0], later[1], later[2]), g, n, place, first[0], first[1], first[2]);
    }

    /** 'RUNS in this part are without WIND'. */
    private static void bestIsWithoutWind() {
        String calm = STUFF + "b0,3,7;p5,8;h1,1,7;";
        BandBoat x = Check.boat(calm);
        BandBoat y = Check.boat(calm + "w9;");
        Check.truth("the WIND counts in a RUN", x.run(60, 5, 1) != y.run(60, 5, 1));
        for (int what = 0; what <= 1; what++) {
            Check.due("best", y.best(6, 60, 3 * what), x.best(6, 60, 3 * what));
            Check.due("just", y.just(4000, what), x.just(4000, what));
            Check.due("straight", y.straight(60, what), x.straight(60, what));
        }
        Check.due("two", y.two(60), x.two(60));
        x.mark(300, 20);
        y.mark(300, 20);
        Check.due("told", y.told(9, 0), x.told(9, 0));
        Check.truth("something is told", x.told(9, 0) > 0);
        Check.truth("but the span has it", y.span(60, 5, 1) < x.span(60, 5, 0));
    }

    /** 'JUST d (0 to 99999)'. */
    private static void justRanges() {
        BandBoat x = new BandBoat();
        int[][] wrong = {{-1, 0}, {100000, 0}, {-1, 1}, {100000, 1}, {500, -1}, {500, 2}};
        for (int[] row : wrong) {
            Check.due("just(" + row[0] + ", " + row[1] + ")", x.just(row[0], row[1]), BAD);
        }
        Check.due("just(0, 0)", x.just(0, 0), 0);
        Check.due("just(0, 1)", x.just(0, 1), 0);
        Check.truth("just(99999, 1)", x.just(99999, 1) > 0);
    }

    /** 'the n by which PLACE is nearest to d, the least': where two are as near, above it and below it. */
    private static void justNearestTheLeast() {
        // By 10 turns 750, by 46 turns 736: 743 is between them.
        String[] texts = {"q76,30,25,80;b0,8,8;p2,16;h2,62,19;", "q89,9,16,66;b0,8,13;p2,17;h7,28,20;", "q20,30,5,9;b0,2,10;"};
        int ties = 0;
        for (String text : texts) {
            int[] places = places(text);
            BandBoat x = Check.boat(text);
            for (int i = 0; i < 240; i++) {
                int d = (places[i] + places[i + 40]) / 2;
                int nearest = 0;
                int as = 0;
                for (int n = 1; n <= 400; n++) {
                    int off = Math.abs(places[n] - d) - Math.abs(places[nearest] - d);
                    as = off < 0 ? 0 : off == 0 && places[n] != places[nearest] ? as + 1 : as;
                    nearest = off < 0 ? n : nearest;
                }
                ties += as;
                Check.due(text + " just(" + d + ", 0)", x.just(d, 0), nearest);
                Check.due(text + " just(" + d + ", 1)", x.just(d, 1), places[nearest]);
            }
        }
        Check.truth("two are as near", ties > 0);
        BandBoat x = Check.boat(texts[0]);
        Check.due("just(743, 0)", x.just(743, 0), 10);
        Check.due("just(743, 1)", x.just(743, 1), 750);
        Check.due("just(742, 0)", x.just(742, 0), 46);
        Check.due("just(742, 1)", x.just(742, 1), 736);
    }

    private static int[] places(String text) {
        BandBoat x = Check.boat(text);
        int[] places = new int[401];
        for (int n = 0; n <= 400; n++) {
            places[n] = x.run(n, -1, 1);
        }
        return places;
    }

    /** n is 0 to 400: both ends, and 1, are found. */
    private static void justAtTheEnds() {
        // From n turns, 141 at most, the PACE is n for good, the PLACE 600 n.
        BandBoat x = Check.boat(SUDDEN + "h20,1,0;");
        int[][] rows = {{0, 0}, {1, 0}, {300, 0}, {301, 1}, {600, 1}, {899, 1}, {900, 1}, {901, 2}, {1500, 2}, {1501, 3}};
        for (int[] row : rows) {
            Check.due("just(" + row[0] + ", 0)", x.just(row[0], 0), row[1]);
            Check.due("just(" + row[0] + ", 1)", x.just(row[0], 1), 600 * row[1]);
        }
        BandBoat far = Check.boat("q32,22,32,96;b0,1,40;p1,19;h81,40,11;");
        Check.due("just(99999, 0)", far.just(99999, 0), 400);
        Check.due("just(99999, 1)", far.just(99999, 1), far.run(400, -1, 1));
        Check.truth("399 is not as far", far.run(399, -1, 1) < far.run(400, -1, 1));
        // 20 n by 99 is the PACE for good: 80 from 396 turns on, 81 would be by 401.
        BandBoat heavy = Check.boat(SUDDEN + "h99,1,0;");
        Check.due("400 at most", heavy.just(99999, 0), 396);
        Check.due("400 at most", heavy.just(99999, 1), 600 * 80);
        BandBoat held = Check.boat("q1,0,1,1;b0,1,40;h99,99,0;");
        Check.due("none goes", held.just(99999, 0), 0);
        Check.due("none goes", held.just(99999, 1), 0);
    }

    /** 'by z, z and 1, ..': z is 0 to 9999 here. */
    private static void spanRanges() {
        BandBoat x = Check.boat(WINDY);
        int[][] wrong = {{-1, 5, 0}, {401, 5, 0}, {60, -1, 0}, {60, 10000, 0}, {60, -2, 1}, {60, 5, -1}, {60, 5, 2}};
        for (int[] row : wrong) {
            Check.due("span(" + row[0] + ", " + row[1] + ", " + row[2] + ")", x.span(row[0], row[1], row[2]), BAD);
        }
        for (int what = 0; what <= 1; what++) {
            Check.due("span(0, 0, " + what + ")", x.span(0, 0, what), 0);
            Check.due("span(0, 9999, " + what + ")", x.span(0, 9999, what), 0);
            Check.truth("span(400, 9999, " + what + ")", x.span(400, 9999, what) > 0);
        }
    }

    /** '(ten, modulo 10000) the least, the greatest PLACE': the tenth counts, an eleventh and one ahead of z do not. */
    private static void spanOfTen() {
        int[] told = new int[6];
        for (int from : new int[] {0, 4000}) {
            spansFrom(from, told);
        }
        for (int i = 0; i < told.length; i++) {
            Check.truth("a span that would tell: " + i, told[i] > 0);
        }
    }

    private static void spansFrom(int from, int[] told) {
        BandBoat x = Check.boat(WINDY);
        BandBoat y = Check.boat(WINDY);
        int[] places = new int[140];
        for (int i = 0; i < places.length; i++) {
            places[i] = x.run(70, from + i, 1);
        }
        for (int i = 1; i + 10 < places.length; i++) {
            int least = places[i];
            int most = places[i];
            for (int k = 1; k < 9; k++) {
                least = Math.min(least, places[i + k]);
                most = Math.max(most, places[i + k]);
            }
            int tenth = places[i + 9];
            told[0] += tenth < least ? 1 : 0;
            told[1] += tenth > most ? 1 : 0;
            least = Math.min(least, tenth);
            most = Math.max(most, tenth);
            told[2] += places[i + 10] < least ? 1 : 0;
            told[3] += places[i + 10] > most ? 1 : 0;
            told[4] += places[i - 1] < least ? 1 : 0;
            told[5] += places[i - 1] > most ? 1 : 0;
            Check.due("span(70, " + (from + i) + ", 0)", y.span(70, from + i, 0), least);
            Check.due("span(70, " + (from + i) + ", 1)", y.span(70, from + i, 1), most);
        }
    }

    /** Behind z 9999 comes z 0: from z 9990 on that is not yet so, from 9991 on it is. */
    private static void spanRoundTheEnd() {
        int rounded = 0;
        for (int n = 10; n <= 400; n += 30) {
            BandBoat x = Check.boat(WINDY);
            int[] places = new int[10000 + 10];
            for (int z = 9988; z < 10010; z++) {
                places[z] = x.run(n, z % 10000, 1);
            }
            for (int z = 9988; z <= 9999; z++) {
                int least = places[z];
                int most = places[z];
                int inside = places[z];
                for (int i = z; i < z + 10; i++) {
                    least = Math.min(least, places[i]);
                    most = Math.max(most, places[i]);
                    inside = i <= 9999 ? Math.max(inside, places[i]) : inside;
                }
                rounded += inside < most ? 1 : 0;
                Check.due("span(" + n + ", " + z + ", 0)", x.span(n, z, 0), least);
                Check.due("span(" + n + ", " + z + ", 1)", x.span(n, z, 1), most);
            }
        }
        Check.truth("a z from 0 on is the greatest", rounded > 0);
    }

    private static void straightRanges() {
        BandBoat x = Check.boat(WINDY);
        int[][] wrong = {{-1, 0}, {401, 0}, {-1, 1}, {401, 1}, {60, -1}, {60, 2}};
        for (int[] row : wrong) {
            Check.due("straight(" + row[0] + ", " + row[1] + ")", x.straight(row[0], row[1]), BAD);
        }
        Check.due("straight(0, 0)", x.straight(0, 0), 0);
        Check.due("straight(0, 1)", x.straight(0, 1), 10000000);
        Check.truth("straight(400, 0)", x.straight(400, 0) >= 0);
    }

    private static void straights(String text, int n, int rudder, int side) {
        BandBoat x = Check.boat(text);
        Check.due(text + " straight(" + n + ", 0)", x.straight(n, 0), rudder);
        Check.due(text + " straight(" + n + ", 1)", x.straight(n, 1), side + 10000000);
        Check.due(text + " run", Check.boat(text + "r" + rudder + ";").run(n, -1, 3), side + 10000000);
    }

    /** 'the R (0 to 20)': 20 is tried, too; the rudder that is LAID does not count. */
    private static void straightFromEndToEnd() {
        straights("q64,23,40,79;b0,6,13;p4,16;h85,77,19;r6;", 284, 20, 20524);
        straights("q70,26,11,86;b0,8,10;p5,5;h6,70,8;r16;", 319, 20, 654);
        straights("q64,23,40,79;b0,6,13;p4,16;h85,77,0;r6;", 284, 0, 0);
        straights("q64,23,40,79;b0,6,13;p4,16;h85,77,0;r20;", 400, 0, 0);
    }

    /** 'by which SIDE, made positive, is least, the lowest; that SIDE': as much to the left as to the right. */
    private static void straightTheLowest() {
        String[] texts = {"q42,10,4,21;b0,7,18;p8,15;h28,52,20;", "q9,17,12,98;b0,6,2;p9,17;h13,45,7;", "q51,6,33,60;b0,8,10;p3,9;h1,29,13;"};
        int[][] rows = {{28, 5, 31}, {71, 10, 111}, {71, 14, 4}};
        for (int i = 0; i < rows.length; i++) {
            int next = Check.boat(texts[i] + "r" + (rows[i][1] + 1) + ";").run(rows[i][0], -1, 3);
            Check.due("as much to the right", next, 10000000 - rows[i][2]);
            straights(texts[i], rows[i][0], rows[i][1], rows[i][2]);
        }
        // The least one is to the right: it is told as it is.
        int right = 0;
        for (int n = 20; n <= 400; n += 20) {
            BandBoat x = Check.boat(WINDY);
            int best = 0;
            for (int r = 1; r <= 20; r++) {
                best = off(r, n) < off(best, n) ? r : best;
            }
            straights(STUFF + "b0,3,7;p5,8;h9,30,7;c5;a3;w9;", n, best, side(best, n));
            Check.due("straight(" + n + ", 0)", x.straight(n, 0), best);
            right += side(best, n) < 0 ? 1 : 0;
        }
        Check.truth("some SIDE is to the right", right > 0);
    }

    private static int side(int r, int n) {
        return Check.boat(STUFF + "b0,3,7;p5,8;h9,30,7;c5;a3;w9;r" + r + ";").run(n, -1, 3) - 10000000;
    }

    private static int off(int r, int n) {
        return Math.abs(side(r, n));
    }

    /** 'TWO: a RUN of n turns (1 to 400)'. */
    private static void twoRanges() {
        BandBoat x = new BandBoat();
        for (int n : new int[] {0, -1, 401, Integer.MIN_VALUE, Integer.MAX_VALUE}) {
            Check.due("two(" + n + ")", x.two(n), BAD);
        }
        BandBoat y = Check.boat(SUDDEN + "h1,1,0;");
        Check.due("two(1)", y.two(1), 1200 * 20);
        Check.truth("two(400)", y.two(400) > 0);
    }

    /** 'to 1200 TENTHS at most': as THE BOAT goes so long, wound again or never unwound. */
    private static void twoOf1200Tenths() {
        for (String text : new String[] {"q20,30,5,9;b0,2,10;", "q99,0,1,1;b0,8,1;p9,10;h99,1,0;", SUDDEN + "h7,3,0;"}) {
            for (int n : new int[] {1, 60, 346, 400}) {
                BandBoat x = Check.boat(text);
                x.wind(n);
                x.go(1, -1);
                boolean again = x.now(0) == 0;
                if (again) {
                    x.wind(n);
                }
                for (int i = 0; i < 11; i++) {
                    x.go(99, -1);
                }
                x.go(110 - 99, -1);
                Check.due("TENTHS", x.now(5), 1101);
                x.go(99, -1);
                Check.due(text + " two(" + n + ")", x.two(n), x.now(2));
                Check.due("T is 0 again", x.now(0) == 0 ? 1 : 0, again ? 1 : 0);
            }
        }
    }

    /** 'T is 100 n again when it is 0 first (behind that TENTH)': not a second time. */
    private static void twoWindsAgainOnce() {
        // The DRAG of 20 stops it in TENTH 2: wound again, there is no PUSH at PACE 20 and it stops just so.
        Check.due("stopped", Check.boat(SUDDEN + "h1,99,0;").two(1), 20);
        // 400 turns: 80 in TENTH 1, then (3920 times 2 less 64) by 99 more: 158; from then on by its DRAG alone.
        int pace = 80;
        int place = pace;
        pace += (3920 * 2 - 64) / 99;
        for (int i = 2; i <= 1200; i++) {
            place += pace;
            pace -= pace * pace * 10 / 1000 / 99;
        }
        Check.due("two(400)", Check.boat(SUDDEN + "h99,10,0;").two(400), place);
        // Too heavy to be moved: over, once T is 0 for the second time.
        Check.due("held", Check.boat(SUDDEN + "h99,10,0;").two(4), 0);
    }

    /** Only TWO is wound again: no other call is, where T is 0 behind the first TENTH. */
    private static void noOtherIsWoundAgain() {
        String text = SUDDEN + "h99,10,20;";
        BandBoat x = Check.boat(text);
        Check.truth("it would tell", x.two(400) > 1200 * 80);
        Check.due("run", x.run(400, -1, 1), 600 * 80);
        Check.due("when", x.when(400, -1, 80 + 81), 3);
        Check.due("just", x.just(99999, 1), 600 * 80);
        Check.due("span", x.span(400, 5, 0), 600 * 80);
        Check.due("span", x.span(400, 5, 1), 600 * 80);
        int rudder = 0;
        for (int r = 1; r <= 20; r++) {
            rudder = suddenOff(r) < suddenOff(rudder) ? r : rudder;
        }
        Check.due("straight", x.straight(400, 0), rudder);
        Check.due("straight", x.straight(400, 1), Check.boat(text + "r" + rudder + ";").run(400, -1, 3));
        int told = 0;
        int[] best = {-1, 0, 0, 0};
        for (int s = 1; s <= 8; s++) {
            for (int p = 1; p <= 9; p++) {
                BandBoat y = Check.boat("q99,0,40,99;b0," + s + ",1;p" + p + ",20;h99,10,20;");
                for (int n = 10; n <= 400; n += 10) {
                    told += y.when(n, -1, 240) == 3 ? 1 : 0;
                }
                int place = y.run(400, -1, 1);
                best = place > best[0] ? new int[] {place, s, 1, p} : best;
            }
        }
        x.mark(240, 3);
        Check.due("told", x.told(0, 0), told);
        bests(text, 1, 400, place("q99,0,40,99;b0,1,1;p9,20;h99,10,20;", 400), 1, 1, 9);
        bests(text, 8, 400, best);
    }

    private static int suddenOff(int r) {
        return Math.abs(Check.boat(SUDDEN + "h99,10,20;r" + r + ";").run(400, -1, 3) - 10000000);
    }

    /** Searched, LAID anew, searched again with the same numbers: the answer is that of what is LAID. */
    private static void aSearchIsOfWhatIsLaid() {
        String[] texts = {WINDY, "q20,30,5,9;b0,2,10;", "q14,13,11,21;b0,1,1;p5,11;h7,45,4;w3;", WINDY};
        BandBoat x = new BandBoat();
        for (String text : texts) {
            x.wipe();
            Check.put(x, text);
            Check.due("lay", x.lay(), 1);
            for (int what = 0; what <= 1; what++) {
                Check.due("best", x.best(4, 50, 3 * what), Check.boat(text).best(4, 50, 3 * what));
                Check.due("just", x.just(3000, what), Check.boat(text).just(3000, what));
                Check.due("span", x.span(50, 7, what), Check.boat(text).span(50, 7, what));
                Check.due("straight", x.straight(50, what), Check.boat(text).straight(50, what));
            }
            Check.due("wise", x.wise(), Check.boat(text).wise());
            Check.due("told without MARKS", x.told(9, 0), 2880);
            Check.due("fits without READINGS", x.fits(99, 0), 9009);
            x.mark(300, 20);
            BandBoat y = Check.boat(text);
            y.mark(300, 20);
            Check.due("told", x.told(9, 0), y.told(9, 0));
            x.reading(5, 500, 400);
            y.reading(5, 500, 400);
            Check.due("fits", x.fits(99, 0), y.fits(99, 0));
        }
        // The same search for other numbers.
        for (int g = 1; g <= 5; g++) {
            Check.due("best(" + g + ")", x.best(g, 50, 0), Check.boat(WINDY).best(g, 50, 0));
        }
        for (int n = 50; n <= 60; n += 10) {
            Check.due("best", x.best(4, n, 0), Check.boat(WINDY).best(4, n, 0));
            Check.due("span", x.span(n, 7, 0), Check.boat(WINDY).span(n, 7, 0));
            Check.due("span", x.span(n, 77, 0), Check.boat(WINDY).span(n, 77, 0));
            Check.due("straight", x.straight(n, 1), Check.boat(WINDY).straight(n, 1));
            Check.due("best of 0 turns", x.best(4, 0, 0), 0);
            Check.due("span by z 0", x.span(n, 0, 0), Check.boat(WINDY).span(n, 0, 0));
            Check.due("straight of 0 turns", x.straight(0, 1), 10000000);
        }
    }
}
