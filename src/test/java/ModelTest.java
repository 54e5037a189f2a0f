import java.util.Random;

/** Drawn runs of calls, every answer compared with the plain model's; the draws are the same each time. */
public final class ModelTest {
    private static final int[] ODD = {-1, 0, 1, 2, 5, 9, 10, 11, 99, 100, 399, 400, 401, 600, 999, 1000, 9999, 10000,
        40000, 40001, 99999, 100000, -2, Integer.MAX_VALUE, Integer.MIN_VALUE};

    private final Random draws;
    private final int run;
    private final BandBoat x = new BandBoat();
    private final PlainBoat y = new PlainBoat();
    /** The last arguments of the dear calls: asked again with another `what`. */
    private int g = 9;
    private int turns = 60;
    private int e = 20;
    private int z = 5;

    private ModelTest(int run) {
        this.run = run;
        this.draws = new Random(7919L * run + 1);
    }

    public static void main(String[] args) {
        int runs = args.length > 0 ? Integer.parseInt(args[0]) : 60;
        for (int i = 0; i < runs && Check.allRight(); i++) {
            new ModelTest(i).calls(i % 3 == 0 ? 420 : 120);
        }
        Check.end("ModelTest");
    }

    private int in(int low, int high) {
        int way = draws.nextInt(8);
        return way == 0 ? low : way == 1 ? high : low + draws.nextInt(high - low + 1);
    }

    /** Mostly within the range, seldom near its ends or far off. */
    private int arg(int low, int high) {
        int way = draws.nextInt(60);
        if (way == 0) {
            return low - 1;
        }
        if (way == 1) {
            return high + 1;
        }
        return way == 2 ? ODD[draws.nextInt(ODD.length)] : in(low, high);
    }

    private void due(String call, long got, long want) {
        Check.due("run " + run + ", " + y.text + ": " + call, got, want);
    }

    private void calls(int most) {
        if (draws.nextInt(4) != 0) {
            layNew();
        }
        for (int i = 0; i < most && Check.allRight(); i++) {
            int way = draws.nextInt(100);
            if (way < 3) {
                layNew();
            } else if (way < 6) {
                text();
            } else if (way < 36) {
                runs();
            } else if (way < 50) {
                bests();
            } else if (way < 70) {
                gauges();
            } else {
                theBoat();
            }
        }
        for (int what = -1; what <= 6; what++) {
            due("count(" + what + ")", x.count(what), y.count(what));
            due("now(" + what + ")", x.now(what), y.now(what));
        }
    }

    private void put(String s) {
        for (int at = 0; at < s.length();) {
            int n = Math.min(1 + draws.nextInt(8), s.length() - at);
            long v = Check.packed(s.substring(at, at + n)) | (n < 8 ? draws.nextLong() << 8 * n : 0);
            due("write(" + n + ", " + v + ")", x.write(n, v), y.write(n, v));
            at += n;
        }
    }

    private void layNew() {
        due("wipe", x.wipe(), y.wipe());
        StringBuilder s = new StringBuilder();
        int stuffs = 1 + draws.nextInt(4);
        for (int i = 0; i < stuffs; i++) {
            s.append(stuff());
            if (draws.nextInt(3) == 0 || i == stuffs - 1) {
                s.append("b" + draws.nextInt(i + 1) + "," + in(1, 8) + "," + in(1, draws.nextBoolean() ? 5 : 40) + ";");
            }
            s.append(others());
        }
        if (draws.nextInt(12) == 0) {
            int at = draws.nextInt(s.length());
            s.setCharAt(at, "qbphrcaw0123456789,;x".charAt(draws.nextInt(21)));
        }
        put(s.toString());
        due("fault", x.fault(), y.fault());
        due("lay", x.lay(), y.lay());
    }

    private String stuff() {
        if (draws.nextInt(5) == 0) {
            return "q" + in(90, 99) + "," + in(0, 3) + "," + in(1, 3) + "," + in(3, 99) + ";";
        }
        int k = in(1, 40);
        return "q" + in(1, 99) + "," + in(0, draws.nextBoolean() ? 30 : 90) + "," + k + "," + in(k, 99) + ";";
    }

    private String others() {
        StringBuilder s = new StringBuilder();
        for (int i = draws.nextInt(5); i > 0; i--) {
            switch (draws.nextInt(7)) {
                case 0: s.append("p" + in(1, 9) + "," + in(1, 20) + ";"); break;
                case 1: s.append("h" + in(1, draws.nextBoolean() ? 9 : 99) + "," + in(1, 99) + "," + in(0, 20) + ";"); break;
                case 2: s.append("r" + in(0, 20) + ";"); break;
                case 3: s.append("c" + in(0, 30) + ";"); break;
                case 4: s.append("a" + in(0, draws.nextBoolean() ? 9 : 60) + ";"); break;
                default: s.append("w" + in(0, 9) + ";"); break;
            }
        }
        return s.toString();
    }

    private void text() {
        switch (draws.nextInt(4)) {
            case 0:
                int n = arg(1, 8);
                long v = draws.nextLong();
                due("write(" + n + ", " + v + ")", x.write(n, v), y.write(n, v));
                break;
            case 1: put(draws.nextBoolean() ? stuff() : others()); break;
            case 2: due("fault", x.fault(), y.fault()); break;
            default: due("lay", x.lay(), y.lay()); break;
        }
    }

    private void runs() {
        int n = arg(0, 400);
        int wind = draws.nextInt(3) == 0 ? -1 : arg(-1, 9999);
        switch (draws.nextInt(8)) {
            case 0:
                int parts = arg(0, 40000);
                boolean down = draws.nextBoolean();
                due("pull(" + parts + ", " + down + ")", x.pull(parts, down), y.pull(parts, down));
                break;
            case 1:
                int d = arg(1, draws.nextBoolean() ? 500 : 99999);
                due("when(" + n + ", " + wind + ", " + d + ")", x.when(n, wind, d), y.when(n, wind, d));
                break;
            case 2:
                int which = arg(0, 1);
                due("lost(" + n + ", " + which + ")", x.lost(n, which), y.lost(n, which));
                break;
            case 3: due("snap(" + n + ")", x.snap(n), y.snap(n)); break;
            case 4:
                if (draws.nextInt(3) == 0) {
                    due("wise", x.wise(), y.wise());
                }
                break;
            default:
                int what = arg(0, 4);
                due("run(" + n + ", " + wind + ", " + what + ")", x.run(n, wind, what), y.run(n, wind, what));
                break;
        }
    }

    private void bests() {
        if (draws.nextInt(3) == 0) {
            g = arg(1, draws.nextInt(4) == 0 ? 99 : 12);
            turns = arg(0, 400);
            z = arg(0, 9999);
        }
        switch (draws.nextInt(5)) {
            case 0:
                int four = arg(0, 3);
                due("best(" + g + ", " + turns + ", " + four + ")", x.best(g, turns, four), y.best(g, turns, four));
                break;
            case 1:
                int d = arg(0, draws.nextBoolean() ? 2000 : 99999);
                int what = arg(0, 1);
                due("just(" + d + ", " + what + ")", x.just(d, what), y.just(d, what));
                break;
            case 2:
                int end = arg(0, 1);
                due("span(" + turns + ", " + z + ", " + end + ")", x.span(turns, z, end), y.span(turns, z, end));
                break;
            case 3:
                int which = arg(0, 1);
                due("straight(" + turns + ", " + which + ")", x.straight(turns, which), y.straight(turns, which));
                break;
            default:
                int n = arg(1, 400);
                due("two(" + n + ")", x.two(n), y.two(n));
                break;
        }
    }

    private void gauges() {
        if (draws.nextInt(3) == 0) {
            e = arg(0, draws.nextBoolean() ? 50 : 999);
        }
        switch (draws.nextInt(12)) {
            case 0:
            case 1: drawReading(); break;
            case 2:
            case 3: drawMark(); break;
            case 4:
                if (draws.nextInt(2) == 0) {
                    due("forget", x.forget(), y.forget());
                }
                break;
            case 5:
            case 6:
                int ten = arg(0, 9);
                int off = draws.nextInt(20) == 0 ? e : Math.floorMod(e, 51);
                due("told(" + off + ", " + ten + ")", x.told(off, ten), y.told(off, ten));
                break;
            default:
                int what = arg(0, 4);
                due("fits(" + e + ", " + what + ")", x.fits(e, what), y.fits(e, what));
                break;
        }
    }

    /** Near what the BAND does, so that something fits. */
    private void drawReading() {
        int n = arg(0, 400);
        int t = 100 * Math.min(400, Math.max(0, n));
        int up = draws.nextInt(5) == 0 ? arg(0, 9999) : Math.min(9999, y.pull(t, false) + draws.nextInt(40));
        int down = draws.nextInt(5) == 0 ? arg(0, 9999) : Math.min(9999, y.pull(t, true) + draws.nextInt(40));
        due("reading(" + n + ", " + up + ", " + down + ")", x.reading(n, up, down), y.reading(n, up, down));
    }

    private void drawMark() {
        int t = arg(0, draws.nextBoolean() ? 60 : 600);
        int d = arg(1, 99999);
        if (draws.nextInt(5) != 0) {
            d = Math.max(1, (int) (in(1, 60) * (long) Math.min(600, Math.max(t, 1))));
        }
        due("mark(" + d + ", " + t + ")", x.mark(d, t), y.mark(d, t));
    }

    private void theBoat() {
        switch (draws.nextInt(9)) {
            case 0:
            case 1:
                int n = arg(1, draws.nextBoolean() ? 60 : 400);
                due("wind(" + n + ")", x.wind(n), y.wind(n));
                break;
            case 2:
            case 3:
                int tenths = arg(1, draws.nextBoolean() ? 9 : 99);
                int wind = arg(-1, 9999);
                due("go(" + tenths + ", " + wind + ")", x.go(tenths, wind), y.go(tenths, wind));
                break;
            case 4:
                if (draws.nextInt(3) == 0) {
                    due("weed", x.weed(), y.weed());
                }
                break;
            case 5: due("keep", x.keep(), y.keep()); break;
            case 6: due("back", x.back(), y.back()); break;
            case 7:
                int what = arg(0, 4);
                due("count(" + what + ")", x.count(what), y.count(what));
                break;
            default:
                for (int i = 0; i <= 5; i++) {
                    due("now(" + i + ")", x.now(i), y.now(i));
                }
                break;
        }
    }
}
