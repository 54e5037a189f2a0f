import java.util.Arrays;

/** 'What it is' and promises 1 to 5: a method for each sentence that names a bound, at both sides of it. */
public final class TextEdgeTest {
    private static final String STUFF = "q20,30,5,99;";
    private static final int NONE = BandBoat.NONE;

    /** An ITEM: what must be told ahead of it, its letter, numbers that are told, and the range of each. */
    private record Kind(String ahead, char letter, int[] numbers, int[][] ranges) {
        String item(int which, String number) {
            StringBuilder s = new StringBuilder().append(letter);
            for (int i = 0; i < numbers.length; i++) {
                s.append(i == 0 ? "" : ",").append(i == which ? number : "" + numbers[i]);
            }
            return s.append(";").toString();
        }

        String item() {
            return item(-1, "");
        }
    }

    private static final Kind[] KINDS = {
        new Kind("", 'q', new int[] {20, 30, 5, 99}, new int[][] {{1, 99}, {0, 90}, {1, 40}, {5, 99}}),
        new Kind(STUFF, 'b', new int[] {0, 2, 10}, new int[][] {{0, 0}, {1, 8}, {1, 40}}),
        new Kind("", 'p', new int[] {4, 10}, new int[][] {{1, 9}, {1, 20}}),
        new Kind("", 'h', new int[] {20, 10, 0}, new int[][] {{1, 99}, {1, 99}, {0, 20}}),
        new Kind("", 'r', new int[] {0}, new int[][] {{0, 20}}),
        new Kind("", 'c', new int[] {0}, new int[][] {{0, 30}}),
        new Kind("", 'a', new int[] {0}, new int[][] {{0, 60}}),
        new Kind("", 'w', new int[] {0}, new int[][] {{0, 9}})};

    public static void main(String[] args) {
        aNewObject();
        oneToEightBytes();
        theHighestFirst();
        threeHundredBytesAtMost();
        anEmptyText();
        wipedAway();
        rangesOfNumbers();
        numbersAtTheirEdgesHold();
        snapsFromKnotsOn();
        oneToThreeFigures();
        howManyNumbers();
        lettersOfItems();
        everyByteInEachPlace();
        endedByASemicolon();
        fourStuffsAtMost();
        aStuffToldAhead();
        withoutAnItem();
        theLastOneHolds();
        theFirstByteOfTheFirst();
        layAnswersStuffs();
        layClearsAll();
        Check.end("TextEdgeTest");
    }

    private static void fault(String text, int due) {
        Check.due("fault of " + text, Check.faultOf(text), due);
    }

    /** 'at first q20,30,5,9;b0,2,10;': LAID, though THE TEXT is empty. */
    private static void aNewObject() {
        BandBoat x = new BandBoat();
        Check.same("a new object", Check.answersOf(x), Check.answersOf(Check.boat("q20,30,5,9;b0,2,10;")));
        int[] counts = {1, 0, 0, 0, 0};
        for (int what = 0; what < counts.length; what++) {
            Check.due("new: count(" + what + ")", x.count(what), counts[what]);
        }
        int[] stands = {0, 0, 0, 10000, 10000000, 0};
        for (int what = 0; what < stands.length; what++) {
            Check.due("new: now(" + what + ")", x.now(what), stands[what]);
        }
        Check.due("new: fits without READINGS", x.fits(0, 0), 9009);
        Check.due("new: told without MARKS", x.told(0, 0), 2880);
        Check.due("new: forget", x.forget(), 0);
        Check.due("new: wipe", x.wipe(), 0);
        Check.due("new: lay", x.lay(), BandBoat.NO);
        Check.due("new: back", x.back(), BandBoat.NO);
    }

    /** 'n bytes (1 to 8) of v'. */
    private static void oneToEightBytes() {
        for (int n = 1; n <= 8; n++) {
            BandBoat x = new BandBoat();
            Check.due("write(" + n + ")", x.write(n, 0), n);
            Check.due("write(" + n + ") again", x.write(n, 0), 2 * n);
            Check.due("count(1)", x.count(1), 2 * n);
        }
        for (int n : new int[] {0, 9, -1, -8, 16, Integer.MIN_VALUE, Integer.MAX_VALUE}) {
            BandBoat x = new BandBoat();
            Check.due("write(" + n + ")", x.write(n, 0x72353b), BandBoat.BAD);
            Check.due("count(1)", x.count(1), 0);
        }
    }

    /** 'the highest first': a TEXT is the same in whatever parts it is written, and what is above the n bytes is not in it. */
    private static void theHighestFirst() {
        String text = "q31,29,7,11;b0,3,9;p7,13;h12,17,6;r3;c2;a4;w5;";
        long[] due = Check.answersOf(Check.boat(text));
        for (int n = 1; n <= 8; n++) {
            BandBoat x = new BandBoat();
            for (int at = 0; at < text.length(); at += n) {
                String part = text.substring(at, Math.min(at + n, text.length()));
                long above = part.length() < 8 ? -1L << 8 * part.length() : 0;
                x.write(part.length(), Check.packed(part) | above);
            }
            Check.due("count(1) by " + n, x.count(1), text.length());
            Check.due("lay by " + n, x.lay(), 1);
            Check.same("written by " + n, Check.answersOf(x), due);
        }
        fault("r5;h1,1,1;", NONE);
        BandBoat turned = new BandBoat();
        turned.write(3, 0x3b3572);
        Check.due("the lowest first is a FAULT", turned.fault(), 0);
    }

    /** 'bytes (300 at most)': every n at every length near the end; what is FULL writes none of its bytes. */
    private static void threeHundredBytesAtMost() {
        for (int length = 291; length <= 300; length++) {
            for (int n = 1; n <= 8; n++) {
                BandBoat x = new BandBoat();
                String text = "r1;".repeat(95);
                Check.put(x, text + "r01234567890123".substring(0, length - text.length()));
                Check.due("count(1)", x.count(1), length);
                int before = x.fault();
                boolean fits = length + n <= 300;
                Check.due("write(" + n + ") at " + length, x.write(n, 0), fits ? length + n : BandBoat.FULL);
                Check.due("count(1)", x.count(1), fits ? length + n : length);
                Check.due("fault", x.fault(), before);
                Check.due("wipe", x.wipe(), fits ? length + n : length);
                Check.due("write behind wipe", x.write(8, 0), 8);
            }
        }
        BandBoat y = Check.boat("q20,30,5,9;b0,2,10;" + "r1;".repeat(92) + "r020;");
        Check.due("count(1)", y.count(1), 300);
        Check.same("LAID by 300 bytes", Check.answersOf(y), Check.answersOf(Check.boat("q20,30,5,9;b0,2,10;r20;")));
    }

    /** 'THE TEXT is empty: how long it was.': of what stood in it nothing is read any more. */
    private static void wipedAway() {
        BandBoat x = new BandBoat();
        String[] texts = {"r5;", "r5", "r55;", "q1,1,1,1;b0,1,1;", "", "q1,1,1,1;b0,1,1", "r1;".repeat(100), "r"};
        int before = 0;
        for (String text : texts) {
            Check.due("wipe", x.wipe(), before);
            Check.due("count(1)", x.count(1), 0);
            Check.due("fault of nothing", x.fault(), NONE);
            Check.put(x, text);
            Check.due("fault of " + text, x.fault(), Check.faultOf(text));
            before = text.length();
        }
        fault("r5", 0);
        fault("q1,1,1,1;b0,1,1", 9);
    }

    private static void anEmptyText() {
        BandBoat x = new BandBoat();
        Check.due("fault of nothing", x.fault(), NONE);
        Check.due("lay of nothing", x.lay(), BandBoat.NO);
        Check.due("wipe of nothing", x.wipe(), 0);
        Check.due("count(1)", x.count(1), 0);
    }

    /** Every number from 0 to 999 in every place of every ITEM; 1000 has too many figures. */
    private static void rangesOfNumbers() {
        for (Kind k : KINDS) {
            for (int i = 0; i < k.numbers.length; i++) {
                for (int v = 0; v <= 1000; v++) {
                    boolean told = v >= k.ranges[i][0] && v <= k.ranges[i][1];
                    fault(k.ahead + k.item(i, "" + v), told ? NONE : k.ahead.length());
                }
            }
        }
    }

    /** The least and the greatest number of each range are taken as they are. */
    private static void numbersAtTheirEdgesHold() {
        for (Kind k : KINDS) {
            for (int i = 0; i < k.numbers.length; i++) {
                for (int v : k.ranges[i]) {
                    asTheModel(base(k.letter) + k.item(i, "" + v) + (k.letter == 'q' ? "b0,2,10;" : ""));
                }
            }
        }
    }

    /** What makes an ITEM count, but for the ITEM with that letter. */
    private static String base(char letter) {
        StringBuilder s = new StringBuilder();
        for (String item : new String[] {"q20,30,5,9;", "b0,2,10;", "p9,20;", "h1,1,5;", "r3;", "c2;", "a2;", "w9;"}) {
            boolean band = letter == 'q' && item.charAt(0) == 'b';
            s.append(item.charAt(0) == letter || band ? "" : item);
        }
        return s.toString();
    }

    private static void asTheModel(String text) {
        PlainBoat y = new PlainBoat();
        y.text = text;
        Check.due("the model lays " + text, y.lay(), y.laid.stuffs.size());
        long[] due = {y.count(0), y.pull(50, false), y.pull(777, false), y.pull(40000, false), y.pull(777, true),
            y.pull(40000, true), y.run(60, 77, 0), y.run(60, 77, 1), y.run(60, 77, 2), y.run(60, 77, 3), y.run(60, 77, 4),
            y.run(400, 9, 1), y.run(400, 9, 3), y.run(400, -1, 1), y.run(400, -1, 2), y.run(400, -1, 3), y.snap(3),
            y.snap(20), y.snap(95), y.lost(20, 0), y.lost(20, 1)};
        Check.same(text, Check.answersOf(Check.boat(text)), due);
    }

    /** 'may snap from B (K to 99)'. */
    private static void snapsFromKnotsOn() {
        for (int k = 1; k <= 40; k++) {
            fault("q1,0," + k + "," + (k - 1) + ";", 0);
            fault("q1,0," + k + "," + k + ";", NONE);
            fault("q1,0," + k + ",99;", NONE);
            fault("q1,0," + k + ",100;", 0);
        }
    }

    /** 'numbers (one to three figures)': noughts ahead are figures, too. */
    private static void oneToThreeFigures() {
        for (Kind k : KINDS) {
            for (int i = 0; i < k.numbers.length; i++) {
                for (int v : k.ranges[i]) {
                    fault(k.ahead + k.item(i, "" + v), NONE);
                    fault(k.ahead + k.item(i, String.format("%02d", v)), NONE);
                    fault(k.ahead + k.item(i, String.format("%03d", v)), NONE);
                    fault(k.ahead + k.item(i, String.format("%04d", v)), k.ahead.length());
                    fault(k.ahead + k.item(i, String.format("%05d", v)), k.ahead.length());
                }
                fault(k.ahead + k.item(i, ""), k.ahead.length());
            }
        }
        BandBoat x = Check.boat("q020,030,005,009;b000,002,010;p04,010;h020,010,000;r000;c00;a000;w00;");
        Check.same("noughts ahead", Check.answersOf(x), Check.answersOf(new BandBoat()));
    }

    /** As many numbers as are told: one fewer, one more is a FAULT. */
    private static void howManyNumbers() {
        for (Kind k : KINDS) {
            String item = k.item();
            int at = k.ahead.length();
            int comma = item.lastIndexOf(',');
            fault(k.ahead + (comma < 0 ? k.letter : item.substring(0, comma)) + ";", at);
            fault(k.ahead + item.replace(";", ",1;"), at);
            fault(k.ahead + item.replace(";", ",;"), at);
            fault(k.ahead + k.letter + ",1;", at);
            fault(k.ahead + item.replace(",", ",,").replace(";", ",;"), at);
        }
    }

    /** Every byte as an ITEM's first one, with one to four numbers behind it. */
    private static void lettersOfItems() {
        String[] numbers = {"1;", "1,1;", "0,1,1;", "1,1,1,1;", "1,1,1,1,1;", ";", ""};
        String[] letters = {"rcaw", "p", "b", "q", "", "", ""};
        for (int i = 0; i < numbers.length; i++) {
            for (int c = 0; c <= 255; c++) {
                fault(STUFF + (char) c + numbers[i], letters[i].indexOf(c) >= 0 ? NONE : STUFF.length());
            }
        }
        for (int c = 0; c <= 255; c++) {
            fault((char) c + "1,1,1;", c == 'h' ? NONE : 0);
        }
    }

    /** Every byte in place of each byte of an ITEM: of a figure, a parting sign and the last sign. */
    private static void everyByteInEachPlace() {
        for (int c = 0; c <= 255; c++) {
            boolean figure = c >= '0' && c <= '9';
            fault("p" + (char) c + ",7;", figure && c != '0' ? NONE : 0);
            fault("p1" + (char) c + "7;", c == ',' ? NONE : 0);
            fault("p1," + (char) c + ";", figure && c != '0' ? NONE : 0);
            // A ; there ends the ITEM; the next one is faulty then.
            fault("p1,1" + (char) c + ";", figure ? NONE : c == ';' ? 5 : 0);
            fault("p1,1" + (char) c, c == ';' ? NONE : 0);
            fault("r00" + (char) c + ";", figure ? NONE : c == ';' ? 4 : 0);
        }
    }

    /** 'and ; (behind the last one, too)'. */
    private static void endedByASemicolon() {
        for (Kind k : KINDS) {
            String whole = k.ahead + k.item();
            for (int end = k.ahead.length() + 1; end < whole.length(); end++) {
                fault(whole.substring(0, end), k.ahead.length());
            }
            fault(whole, NONE);
            fault(whole + ";", whole.length());
            fault(whole + ",", whole.length());
            fault(whole + " ", whole.length());
            fault(whole + whole.charAt(0), whole.length());
        }
    }

    /** '4 at most, 0, 1, ..'. */
    private static void fourStuffsAtMost() {
        String q = "q1,0,1,1;";
        for (int n = 1; n <= 6; n++) {
            fault(q.repeat(n), n <= 4 ? NONE : 36);
            fault(q.repeat(n) + "b0,1,1;", n <= 4 ? NONE : 36);
        }
        fault(q + "b0,1,1;" + q.repeat(3) + "r1;" + q, 46);
        String four = "q10,0,1,1;q20,0,1,1;q30,0,1,1;q40,0,1,1;";
        for (int n = 0; n <= 3; n++) {
            Check.due("STUFF " + n, Check.boat(four + "b" + n + ",1,1;").pull(1, false), n + 1);
        }
    }

    /** 'of STUFF Q (told ahead)'. */
    private static void aStuffToldAhead() {
        String q = "q1,0,1,1;";
        for (int stuffs = 0; stuffs <= 4; stuffs++) {
            for (int of : new int[] {0, 1, 2, 3, 4, 5, 10, 255, 256, 999}) {
                fault(q.repeat(stuffs) + "b" + of + ",1,1;", of < stuffs ? NONE : 9 * stuffs);
            }
        }
        for (int stuffs = 0; stuffs <= 3; stuffs++) {
            fault(q.repeat(stuffs) + "b" + stuffs + ",1,1;" + q, 9 * stuffs);
        }
        // A STUFF told behind the BAND is another one.
        Check.due("STUFF 0", Check.boat("q30,0,1,1;b0,1,1;q40,0,1,1;").pull(1, false), 3);
    }

    /** '(4, 10 without; ..)': without an ITEM it is as told, and not as with a number beside that. */
    private static void withoutAnItem() {
        for (Kind k : KINDS) {
            if (k.letter == 'q' || k.letter == 'b') {
                continue;
            }
            long[] without = Check.answersOf(Check.boat(base(k.letter)));
            Check.same("without " + k.letter, without, Check.answersOf(Check.boat(base(k.letter) + k.item())));
            // An earlier TEXT's ITEM does not count.
            BandBoat x = Check.boat("q99,1,2,3;b0,8,3;p9,19;h77,66,19;r19;c29;a59;w8;");
            x.wipe();
            Check.put(x, base(k.letter));
            Check.due("lay", x.lay(), 1);
            Check.same("without " + k.letter + ", behind another", Check.answersOf(x), without);
            for (int i = 0; i < k.numbers.length; i++) {
                for (int beside : new int[] {k.numbers[i] - 1, k.numbers[i] + 1}) {
                    if (beside >= 0) {
                        long[] other = Check.answersOf(Check.boat(base(k.letter) + k.item(i, "" + beside)));
                        Check.truth(k.item(i, "" + beside) + " is another", !Arrays.equals(without, other));
                    }
                }
            }
        }
    }

    /** '(the last one)': of an ITEM told more than once. */
    private static void theLastOneHolds() {
        String[][] twice = {{"b1,3,8;", "b0,2,9;"}, {"b0,2,9;", "b1,3,8;"}, {"p2,19;", "p9,3;"}, {"h40,9,2;", "h3,70,11;"},
            {"r20;", "r1;"}, {"r1;", "r20;"}, {"c30;", "c0;"}, {"c0;", "c30;"}, {"a60;", "a0;"}, {"a0;", "a60;"},
            {"w9;", "w0;"}, {"w0;", "w9;"}};
        for (String[] items : twice) {
            String rest = "q20,30,5,9;q50,3,2,40;" + base(items[0].charAt(0)).replace("q20,30,5,9;", "");
            long[] first = Check.answersOf(Check.boat(rest + items[0]));
            long[] last = Check.answersOf(Check.boat(rest + items[1]));
            Check.same(items[0] + items[1], Check.answersOf(Check.boat(rest + items[0] + items[1])), last);
            Check.same(items[1] + items[0], Check.answersOf(Check.boat(rest + items[1] + items[0])), first);
            Check.same("thrice", Check.answersOf(Check.boat(rest + items[1] + items[0] + items[1])), last);
            Check.truth(items[0] + " is not " + items[1], !Arrays.equals(first, last));
        }
    }

    /** 'FAULT: the place of the first byte of the first ITEM that is not so.' */
    private static void theFirstByteOfTheFirst() {
        fault("x", 0);
        fault("r21;c31;", 0);
        fault("r20;c31;a61;", 4);
        fault("r20;c30;a61;w10;", 8);
        fault("r20;c30;a60;w10", 12);
        fault("r20;c30;a60;w9;h1,1,21;", 15);
        // An ITEM that would be faulty by a later number, behind one that is faulty by its letter.
        fault("z;r21;", 0);
        String most = "r1;".repeat(98) + "r001;";
        Check.due("bytes", most.length(), 299);
        for (int c = 0; c <= 255; c++) {
            fault(most + (char) c, 299);
        }
        fault("r1;".repeat(99) + "r1;", NONE);
        fault("r1;".repeat(99) + "r12", 297);
        fault("x" + "r1;".repeat(99), 0);
    }

    /** 'LAID: how many STUFFS'. */
    private static void layAnswersStuffs() {
        for (int n = 1; n <= 4; n++) {
            BandBoat x = new BandBoat();
            Check.put(x, "q9,9,9,9;".repeat(n));
            Check.due("lay without a BAND", x.lay(), BandBoat.NO);
            Check.due("count(0)", x.count(0), 1);
            Check.put(x, "b" + (n - 1) + ",1,1;");
            Check.due("lay", x.lay(), n);
            Check.due("count(0)", x.count(0), n);
            Check.due("lay again", x.lay(), n);
            Check.put(x, "x");
            Check.due("lay with a FAULT", x.lay(), BandBoat.NO);
            Check.due("count(0)", x.count(0), n);
        }
    }

    /** 'THE BOAT stands unwound at 0, TENTH 0; no READINGS, MARKS, nothing KEPT': also if the same is LAID again. */
    private static void layClearsAll() {
        String text = "q99,0,1,1;b0,8,1;p9,20;h1,1,20;r1;";
        BandBoat x = Check.boat(text);
        for (int i = 0; i < 6; i++) {
            x.reading(400, 0, 0);
            x.mark(99999, 0);
            x.keep();
        }
        x.wind(400);
        x.go(3, 9);
        for (int what = 1; what <= 5; what++) {
            Check.truth("now(" + what + ") is not as at first", x.now(what) != (what == 3 ? 10000 : what == 4 ? 10000000 : 0));
        }
        x.wind(1);
        Check.due("fits", x.fits(30, 0), 0);
        Check.due("told", x.told(20, 0), 0);
        Check.due("lay", x.lay(), 1);
        Check.same("as a new one", Witness.of(x), Witness.of(Check.boat(text)));
    }
}
