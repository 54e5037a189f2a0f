/** Promises 1 to 5: a new object, write, wipe, fault, lay. */
public final class TextTest {
    public static void main(String[] args) {
        newObject();
        write();
        wipe();
        goodTexts();
        badForms();
        badNumbers();
        lay();
        Check.end("TextTest");
    }

    private static void newObject() {
        BandBoat x = new BandBoat();
        BandBoat y = Check.boat("q20,30,5,9;b0,2,10;");
        for (int what = 0; what <= 4; what++) {
            Check.due("new: count(" + what + ")", x.count(what), what == 0 ? 1 : 0);
        }
        for (int what = 0; what <= 5; what++) {
            Check.due("new: now(" + what + ")", x.now(what), what == 3 ? 10000 : what == 4 ? 10000000 : 0);
        }
        for (int t = 0; t <= 40000; t += 777) {
            Check.due("new: pull", x.pull(t, false), y.pull(t, false));
            Check.due("new: pull down", x.pull(t, true), y.pull(t, true));
        }
        for (int what = 0; what <= 4; what++) {
            Check.due("new: run", x.run(90, 5, what), y.run(90, 5, what));
        }
        Check.due("new: snap(5)", x.snap(5), 5);
        Check.due("new: fault", x.fault(), BandBoat.NONE);
        Check.due("new: back", x.back(), BandBoat.NO);
        Check.due("new: forget", x.forget(), 0);
    }

    private static void write() {
        BandBoat x = new BandBoat();
        Check.due("write(0)", x.write(0, 65), BandBoat.BAD);
        Check.due("write(9)", x.write(9, 65), BandBoat.BAD);
        Check.due("write(-1)", x.write(-1, 65), BandBoat.BAD);
        Check.due("write(min)", x.write(Integer.MIN_VALUE, 65), BandBoat.BAD);
        Check.due("count", x.count(1), 0);
        Check.due("write r", x.write(1, 'r'), 1);
        Check.due("write 7;", x.write(2, Check.packed("7;")), 3);
        Check.due("fault", x.fault(), BandBoat.NONE);
        // What is above the n bytes does not count.
        Check.due("write c1;", x.write(3, Check.packed("zzzzzc1;")), 6);
        Check.due("fault", x.fault(), BandBoat.NONE);
        Check.due("write -1", x.write(8, -1L), 14);
        Check.due("fault", x.fault(), 6);
        BandBoat y = new BandBoat();
        for (int i = 1; i <= 37; i++) {
            Check.due("fill", y.write(8, Check.packed("r1;r02;r")), 8 * i);
        }
        Check.due("write(5) at 296", y.write(5, 0), BandBoat.FULL);
        Check.due("write(9) at 296", y.write(9, 0), BandBoat.BAD);
        Check.due("count", y.count(1), 296);
        Check.due("write(4) at 296", y.write(4, 0), 300);
        Check.due("write(1) at 300", y.write(1, 0), BandBoat.FULL);
        Check.due("write(0) at 300", y.write(0, 0), BandBoat.BAD);
        Check.due("count", y.count(1), 300);
        Check.due("wipe", y.wipe(), 300);
        Check.due("write behind wipe", y.write(8, 0), 8);
    }

    private static void wipe() {
        BandBoat x = Check.boat("q9,0,1,1;b0,1,1;");
        Check.due("wipe", x.wipe(), 16);
        Check.due("count", x.count(1), 0);
        Check.due("wipe", x.wipe(), 0);
        Check.due("LAID stays", x.count(0), 1);
        Check.due("LAID stays", x.pull(10, false), 9);
        Check.put(x, "r5;");
        Check.due("old bytes are gone", x.fault(), BandBoat.NONE);
        Check.due("count", x.count(1), 3);
        Check.due("wipe", x.wipe(), 3);
        Check.put(x, "r5");
        Check.due("an old ; ends nothing", x.fault(), 0);
        fullTexts();
    }

    /** A TEXT of 300 bytes, with and without its last sign. */
    private static void fullTexts() {
        String most = "r1;".repeat(99);
        good(most + "r1;");
        bad(most + "r12", 297);
        bad(most + "r1,", 297);
        bad(most + "rrr", 297);
        BandBoat x = Check.boat("q09,0,1,1;b0,1,01;" + "r1;".repeat(94));
        Check.due("count", x.count(1), 300);
        Check.due("lay of 300 bytes", x.lay(), 1);
    }

    private static void good(String text) {
        Check.due("fault of " + text, Check.faultOf(text), BandBoat.NONE);
    }

    private static void bad(String text, int at) {
        Check.due("fault of " + text, Check.faultOf(text), at);
    }

    private static void goodTexts() {
        good("");
        good("q1,0,1,1;q99,90,40,99;q5,5,40,40;q007,08,009,010;");
        good("q1,0,1,1;b0,1,1;b0,8,40;q1,0,1,1;b1,1,1;b0,1,1;");
        good("p1,1;p9,20;h1,1,0;h99,99,20;r0;r20;c0;c30;a0;a60;w0;w9;");
        good("r000;r020;w009;");
    }

    private static void badForms() {
        String[] faulty = {";", ",", "5", "q", "x1;", "Q1,0,1,1;", "R1;", " r1;", "r", "r1", "r1,", "r;", "r,1;", "r1,;",
            "r1,1;", "r1 ;", "r+1;", "r-1;", "r0001;", "rr1;", "p1;", "p1,;", "p,1;", "p1,1", "p1,1,1;", "p1;1;",
            "h1,1;", "h1,1,1,1;", "c;", "a;", "w;", "c1,2;", "a1,2;", "w1,2;", "d1;", "z1;", "\u00e9" + "1;",
            "q1,0,1;", "q1,0,1,1,1;", "q1,0,1,1", "q1,0,1,1,", "q1,0,01,0001;"};
        for (String item : faulty) {
            bad(item, 0);
            bad("r1;" + item, 3);
            bad("c1;p2,2;" + item + "r1;", 8);
        }
        bad("r1;;", 3);
        bad("r1;\0", 3);
        bad("q1,0,1,1;b0,1;", 9);
        bad("q1,0,1,1;b0,1,1,1;", 9);
        bad("q1,0,1,1;b0,1,1", 9);
        bad("q1,0,1,1;b0,1,1;r99;x", 16);
    }

    private static void badNumbers() {
        String[] faulty = {"q0,0,1,1;", "q100,0,1,1;", "q1,91,1,1;", "q1,0,0,1;", "q1,0,41,50;", "q1,0,5,4;", "q1,0,1,100;",
            "q1,0,0,0;", "p0,1;", "p10,1;", "p1,0;", "p1,21;", "h0,1,0;", "h100,1,0;", "h1,0,0;", "h1,100,0;", "h1,1,21;",
            "r21;", "c31;", "a61;", "w10;", "r999;", "b0,1,1;"};
        for (String item : faulty) {
            bad(item, 0);
            bad("w1;" + item, 3);
        }
        String q = "q1,0,1,1;";
        String[] bands = {"b1,1,1;", "b4,1,1;", "b999,1,1;", "b0,0,1;", "b0,9,1;", "b0,1,0;", "b0,1,41;"};
        for (String item : bands) {
            bad(q + item, 9);
            bad(q + item + q, 9);
        }
        good(q + q + q + q + "b3,1,1;");
        bad(q + q + q + q + "b4,1,1;", 36);
        bad(q + q + q + q + q, 36);
        bad(q + q + "b2,1,1;" + q, 18);
        good(q + q + q + "b2,1,1;");
    }

    private static void lay() {
        BandBoat x = new BandBoat();
        Check.due("lay of nothing", x.lay(), BandBoat.NO);
        Check.put(x, "q50,0,40,99;");
        Check.due("lay without a band", x.lay(), BandBoat.NO);
        Check.due("stuffs", x.count(0), 1);
        Check.put(x, "q7,0,40,99;");
        Check.due("lay without a band", x.lay(), BandBoat.NO);
        Check.due("stuffs", x.count(0), 1);
        Check.due("pull", x.pull(100, false), 40);
        Check.due("wind", x.wind(3), 300);
        Check.due("go", x.go(3, -1), 0);
        Check.due("keep", x.keep(), 1);
        Check.due("reading", x.reading(1, 1, 1), 1);
        Check.due("mark", x.mark(1, 1), 1);
        Check.put(x, "b0,1,1;b1,2,1;r");
        Check.due("lay with a fault", x.lay(), BandBoat.NO);
        Check.due("nothing changes", x.now(5) + x.count(2) + x.count(3) + x.count(4), 6);
        Check.put(x, "3;");
        Check.due("lay", x.lay(), 2);
        Check.due("the last band", x.pull(100, false), 140);
        int[] stands = {0, 0, 0, 10000, 10000000, 0};
        for (int what = 0; what < stands.length; what++) {
            Check.due("stands: now(" + what + ")", x.now(what), stands[what]);
        }
        for (int what = 2; what <= 4; what++) {
            Check.due("count(" + what + ")", x.count(what), 0);
        }
        Check.due("back", x.back(), BandBoat.NO);
        Check.due("the text stays", x.count(1), 40);
        Check.due("lay again", x.lay(), 2);
        x.wipe();
        Check.put(x, "q9,9,9,9;");
        Check.due("an earlier band does not count", x.lay(), BandBoat.NO);
        Check.due("stuffs", x.count(0), 2);
        whatIsNotTold();
    }

    /** What an earlier LAID told does not last. */
    private static void whatIsNotTold() {
        BandBoat x = Check.boat("q50,20,3,9;b0,3,3;p9,3;h3,80,19;r17;c29;a55;w9;");
        x.wipe();
        Check.put(x, "q20,30,5,9;b0,2,10;");
        Check.due("lay", x.lay(), 1);
        BandBoat y = new BandBoat();
        BandBoat z = Check.boat("h20,10,0;q20,30,5,9;c0;p4,10;a0;w0;b0,2,10;r0;");
        BandBoat last = Check.boat("h1,1,1;p1,1;r5;c5;a5;w5;q20,30,5,9;b0,2,10;h20,10,0;c0;p4,10;a0;w0;r0;");
        for (int what = 0; what <= 4; what++) {
            Check.due("not told", x.run(120, 77, what), y.run(120, 77, what));
            Check.due("told as without", z.run(120, 77, what), y.run(120, 77, what));
            Check.due("the last one", last.run(120, 77, what), y.run(120, 77, what));
        }
        Check.due("snap", x.snap(30), y.snap(30));
    }
}
