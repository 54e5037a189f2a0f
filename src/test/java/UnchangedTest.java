import java.util.ArrayList;
import java.util.List;

/**
 * Terms: 'BAD: a number is none that is told. NO: not as things stand. NONE: there is none. FULL. Of several the first;
 * nothing changes then.' Each refused call is made in an empty, a middling and a full object, and all that can be seen of
 * the object is compared with that of another one that was not asked. The same for calls that only ask.
 */
public final class UnchangedTest {
    private static final int MIN = Integer.MIN_VALUE;
    private static final int MAX = Integer.MAX_VALUE;
    private static final String TEXT = "q30,20,5,20;q9,9,9,9;b0,3,7;p5,8;h9,30,7;r2;c5;a3;w9;";

    private interface Call {
        long of(BandBoat x, int v);
    }

    /** A number of a call, with the range that is told. */
    private record Argument(String name, int low, int high, Call call) {
    }

    private interface Maker {
        BandBoat make();
    }

    private record State(String name, Maker maker, long[] seen) {
    }

    private static final List<Argument> ARGUMENTS = new ArrayList<>();

    public static void main(String[] args) {
        tellArguments();
        rangesOfArguments();
        State empty = state("empty", UnchangedTest::empty);
        State middling = state("middling", UnchangedTest::middling);
        State full = state("full", UnchangedTest::full);
        for (State s : List.of(empty, middling, full)) {
            refuseArguments(s);
            onlyAsks(s);
        }
        refuseSeveral(middling);
        refuseSeveral(full);
        refuseFull(full);
        refuseNo(empty, middling, full);
        refuseLay();
        Check.end("UnchangedTest");
    }

    private static State state(String name, Maker maker) {
        return new State(name, maker, Witness.of(maker.make()));
    }

    private static BandBoat empty() {
        return new BandBoat();
    }

    /** Something of all, room for more. */
    private static BandBoat middling() {
        BandBoat x = Check.boat(TEXT);
        Check.put(x, "c9;");
        x.reading(2, x.pull(200, false), x.pull(200, true) + 9);
        x.reading(3, x.pull(300, false), x.pull(300, true));
        x.mark(200, 25);
        x.mark(201, 10);
        x.wind(70);
        x.go(4, 7);
        x.keep();
        x.go(5, -1);
        askDear(x);
        return x;
    }

    /** As much of all as there may be. */
    private static BandBoat full() {
        BandBoat x = Check.boat(TEXT);
        Check.put(x, "c8;".repeat(82) + "c");
        Check.due("a full TEXT", x.count(1), 300);
        for (int i = 1; i <= 6; i++) {
            x.reading(i, x.pull(100 * i, false), x.pull(100 * i, true) + i);
        }
        for (int i = 1; i <= 4; i++) {
            x.mark(50 * i, 20 + i);
        }
        x.wind(70);
        x.go(4, 7);
        x.keep();
        x.go(5, -1);
        x.keep();
        x.go(6, 9999);
        x.wind((40000 - x.now(0)) / 100);
        askDear(x);
        return x;
    }

    /** What is kept of a search must not be stale either. */
    private static void askDear(BandBoat x) {
        x.wise();
        x.best(3, 60, 0);
        x.span(60, 9995, 0);
        x.straight(60, 0);
        Check.truth("something fits", x.fits(30, 0) > 0);
        Check.truth("something is told", x.told(20, 0) > 0);
    }

    private static void argument(String name, int low, int high, Call call) {
        ARGUMENTS.add(new Argument(name, low, high, call));
    }

    private static void tellArguments() {
        argument("write n", 1, 8, (x, v) -> x.write(v, 65));
        argument("pull parts", 0, 40000, (x, v) -> x.pull(v, false));
        argument("pull parts down", 0, 40000, (x, v) -> x.pull(v, true));
        argument("run n", 0, 400, (x, v) -> x.run(v, 5, 1));
        argument("run z", -1, 9999, (x, v) -> x.run(60, v, 1));
        argument("run what", 0, 4, (x, v) -> x.run(60, 5, v));
        argument("when n", 0, 400, (x, v) -> x.when(v, 5, 9));
        argument("when z", -1, 9999, (x, v) -> x.when(60, v, 9));
        argument("when d", 1, 99999, (x, v) -> x.when(60, 5, v));
        argument("lost n", 0, 400, (x, v) -> x.lost(v, 0));
        argument("lost what", 0, 1, (x, v) -> x.lost(60, v));
        argument("snap n", 0, 400, (x, v) -> x.snap(v));
        argument("best g", 1, 99, (x, v) -> x.best(v, 60, 0));
        argument("best n", 0, 400, (x, v) -> x.best(3, v, 0));
        argument("best what", 0, 3, (x, v) -> x.best(3, 60, v));
        argument("just d", 0, 99999, (x, v) -> x.just(v, 0));
        argument("just what", 0, 1, (x, v) -> x.just(500, v));
        argument("span n", 0, 400, (x, v) -> x.span(v, 5, 0));
        argument("span z", 0, 9999, (x, v) -> x.span(60, v, 0));
        argument("span what", 0, 1, (x, v) -> x.span(60, 5, v));
        argument("straight n", 0, 400, (x, v) -> x.straight(v, 0));
        argument("straight what", 0, 1, (x, v) -> x.straight(60, v));
        argument("two n", 1, 400, (x, v) -> x.two(v));
        argument("reading n", 0, 400, (x, v) -> x.reading(v, 5, 5));
        argument("reading up", 0, 9999, (x, v) -> x.reading(5, v, 5));
        argument("reading down", 0, 9999, (x, v) -> x.reading(5, 5, v));
        argument("fits e", 0, 999, (x, v) -> x.fits(v, 0));
        argument("fits what", 0, 4, (x, v) -> x.fits(30, v));
        argument("mark d", 1, 99999, (x, v) -> x.mark(v, 5));
        argument("mark t", 0, 600, (x, v) -> x.mark(5, v));
        argument("told e", 0, 50, (x, v) -> x.told(v, 0));
        argument("told what", 0, 9, (x, v) -> x.told(20, v));
        argument("wind n", 1, 400, (x, v) -> x.wind(v));
        argument("go tenths", 1, 99, (x, v) -> x.go(v, 5));
        argument("go z", -1, 9999, (x, v) -> x.go(5, v));
        argument("now what", 0, 5, (x, v) -> x.now(v));
        argument("count what", 0, 4, (x, v) -> x.count(v));
    }

    /** The last inside at each end is not BAD, the first outside is, and so is what is far off. */
    private static void rangesOfArguments() {
        for (Argument n : ARGUMENTS) {
            for (int v : new int[] {n.low, n.low + 1, n.high - 1, n.high}) {
                Check.truth(n.name + " " + v + " is told", n.call.of(new BandBoat(), v) != BandBoat.BAD);
            }
            for (int v : outside(n)) {
                Check.due(n.name + " " + v, n.call.of(new BandBoat(), v), BandBoat.BAD);
            }
        }
    }

    private static int[] outside(Argument n) {
        return new int[] {n.low - 1, n.high + 1, n.low - 2, n.high + 256, n.high + 65536, MIN, MIN + 1, MAX};
    }

    private static void refused(State s, String name, Call call, int v, long due) {
        BandBoat x = s.maker.make();
        String what = s.name + ": " + name + " " + v;
        Check.due(what, call.of(x, v), due);
        Check.same("behind " + what, Witness.of(x), s.seen);
    }

    /** BAD is the first of several: in a full object, too, where FULL or NO would be due behind it. */
    private static void refuseArguments(State s) {
        for (Argument n : ARGUMENTS) {
            for (int v : new int[] {n.low - 1, n.high + 1, MIN, MAX}) {
                refused(s, n.name, n.call, v, BandBoat.BAD);
            }
        }
    }

    /** More than one number is none that is told. */
    private static void refuseSeveral(State s) {
        refused(s, "run n, z, what", (x, v) -> x.run(v, v, v), MIN, BandBoat.BAD);
        refused(s, "when n, z, d", (x, v) -> x.when(v, v, v), MAX, BandBoat.BAD);
        refused(s, "lost n, what", (x, v) -> x.lost(v, v), -1, BandBoat.BAD);
        refused(s, "best g, n, what", (x, v) -> x.best(v, v, v), 401, BandBoat.BAD);
        refused(s, "just d, what", (x, v) -> x.just(v, v), -1, BandBoat.BAD);
        refused(s, "span n, z, what", (x, v) -> x.span(v, v, v), -1, BandBoat.BAD);
        refused(s, "straight n, what", (x, v) -> x.straight(v, v), 401, BandBoat.BAD);
        refused(s, "reading n, up, down", (x, v) -> x.reading(v, v, v), -1, BandBoat.BAD);
        refused(s, "fits e, what", (x, v) -> x.fits(v, v), 1000, BandBoat.BAD);
        refused(s, "mark d, t", (x, v) -> x.mark(v, v), -1, BandBoat.BAD);
        refused(s, "told e, what", (x, v) -> x.told(v, v), 51, BandBoat.BAD);
        refused(s, "go tenths, z", (x, v) -> x.go(v, v), -2, BandBoat.BAD);
    }

    private static void refuseFull(State full) {
        for (int n = 1; n <= 8; n++) {
            refused(full, "write", (x, v) -> x.write(v, 0x7235_3b72_353b_723bL), n, BandBoat.FULL);
        }
        refused(full, "reading", (x, v) -> x.reading(v, 5, 5), 5, BandBoat.FULL);
        refused(full, "mark", (x, v) -> x.mark(v, 5), 5, BandBoat.FULL);
        refused(full, "keep", (x, v) -> x.keep(), 0, BandBoat.FULL);
    }

    private static void refuseNo(State empty, State middling, State full) {
        refused(empty, "back", (x, v) -> x.back(), 0, BandBoat.NO);
        refused(empty, "lay of an empty TEXT", (x, v) -> x.lay(), 0, BandBoat.NO);
        refused(full, "lay of a TEXT with a FAULT", (x, v) -> x.lay(), 0, BandBoat.NO);
        refused(full, "wind", (x, v) -> x.wind(v), 1, BandBoat.NO);
        refused(full, "wind", (x, v) -> x.wind(v), 400, BandBoat.NO);
        refused(middling, "wind", (x, v) -> x.wind(v), 400, BandBoat.NO);
        refused(middling, "run till T is 0", (x, v) -> x.run(v, -1, 4), 60, BandBoat.NONE);
        refused(middling, "when", (x, v) -> x.when(60, -1, v), 99999, BandBoat.NONE);
        refused(middling, "fits", (x, v) -> x.fits(0, v), 1, BandBoat.NONE);
        refused(middling, "told", (x, v) -> x.told(0, v), 1, BandBoat.NONE);
        refused(middling, "fault", (x, v) -> x.fault(), 0, BandBoat.NONE);
        refused(full, "fault", (x, v) -> x.fault(), 0, 299);
    }

    /** Behind a refused LAY all is as it was, also what the TEXT tells ahead of its FAULT. */
    private static void refuseLay() {
        String[] texts = {"q99,0,1,1;p9,20;h1,1,20;r20;c30;a60;w0;", "q99,0,1,1;b0,8,1;p9,20;h1,1,20;r20;c30;a60;w0;x",
            "q99,0,1,1;b0,8,1;p10,1;", "b0,8,1;", "q99,0,1,1;q98,0,1,1;q97,0,1,1;"};
        for (String text : texts) {
            State rewritten = state("rewritten", () -> rewritten(text));
            refused(rewritten, "lay of " + text, (x, v) -> x.lay(), 0, BandBoat.NO);
        }
    }

    private static BandBoat rewritten(String text) {
        BandBoat x = middling();
        x.wipe();
        Check.put(x, text);
        return x;
    }

    /** A call that only asks changes nothing: what is tried in it is not what is LAID, nor THE BOAT. */
    private static void onlyAsks(State s) {
        asks(s, "fault", (x, v) -> x.fault());
        asks(s, "pull", (x, v) -> x.pull(777, true));
        asks(s, "run", (x, v) -> x.run(200, 9, 1));
        asks(s, "when", (x, v) -> x.when(200, 9, 50));
        asks(s, "lost", (x, v) -> x.lost(60, 0));
        asks(s, "snap", (x, v) -> x.snap(60));
        asks(s, "wise", (x, v) -> x.wise());
        asks(s, "best", (x, v) -> x.best(9, 90, 0));
        asks(s, "just", (x, v) -> x.just(4000, 0));
        asks(s, "span", (x, v) -> x.span(90, 1234, 0));
        asks(s, "straight", (x, v) -> x.straight(90, 0));
        asks(s, "two", (x, v) -> x.two(90));
        asks(s, "fits", (x, v) -> x.fits(999, 2));
        asks(s, "told", (x, v) -> x.told(50, 2));
        asks(s, "now", (x, v) -> x.now(1));
        asks(s, "count", (x, v) -> x.count(1));
    }

    private static void asks(State s, String name, Call call) {
        BandBoat x = s.maker.make();
        long first = call.of(x, 0);
        Check.due(s.name + ": " + name + " again", call.of(x, 0), first);
        Check.same("behind " + s.name + ": " + name, Witness.of(x), s.seen);
    }
}
