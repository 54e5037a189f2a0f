import java.util.ArrayList;
import java.util.List;
import java.util.regex.Matcher;
import java.util.regex.Pattern;

/** The document once more, sentence by sentence and without short cuts: what BandBoat is compared with. */
final class PlainBoat {
    static final int BAD = -1, NO = -2, FULL = -3, NONE = -4;

    private static final Pattern ITEM = Pattern.compile("([qbphrcaw])([0-9]{1,3}(?:,[0-9]{1,3})*);");

    /** A boat as a TEXT tells it. */
    static final class Told implements Cloneable {
        List<long[]> stuffs = new ArrayList<>();
        boolean band;
        long u, d, k, b, s, l;
        long p = 4, a = 10, m = 20, f = 10, y = 0, r = 0, c = 0, days = 0, w = 0;

        Told copy() {
            try {
                return (Told) clone();
            } catch (CloneNotSupportedException e) {
                throw new IllegalStateException(e);
            }
        }

        long up(long t) {
            long pull = u * s * t / (10 * l);
            long knot = 10 * k * l / s;
            if (t > knot) {
                pull += 2 * u * s * (t - knot) / (10 * l);
            }
            return pull * (100 - c) / 100;
        }

        long down(long t) {
            return up(t) * (100 - d) / 100 * (100 - days) / 100;
        }

        long snap(long n) {
            long safe = 10 * b * l / s;
            return 100 * n <= safe ? 0 : Math.min(1000, (100 * n - safe) / 10 + 5 * days);
        }
    }

    /** How a boat is. */
    static final class State {
        long parts, pace, place, turn, side, tenth;

        State copy() {
            State x = new State();
            x.parts = parts;
            x.pace = pace;
            x.place = place;
            x.turn = turn;
            x.side = side;
            x.tenth = tenth;
            return x;
        }

        void goTenth(Told b, long z) {
            long spin = Math.min(parts, b.down(parts) / (10 + b.p * b.p));
            long push = Math.max(0, b.p * spin / 10 - pace) * b.a / 10;
            long x = 7919 * z + 6151 * tenth + 1;
            long wind = z == -1 ? 0 : x * x % 65521 % (b.w + 1);
            long drag = pace * pace * b.f / 1000 + wind;
            parts -= spin;
            pace = Math.min(999, Math.max(0, pace + (push - drag) / b.m));
            place += pace;
            turn = Math.min(9999, Math.max(-9999, turn + (push * b.y - pace * b.r) / 100));
            side = Math.min(9999999, Math.max(-9999999, side + pace * turn / 1000));
            tenth++;
        }
    }

    /** A RUN. */
    static final class Run {
        long tenths, top, empty = NONE;
        State state = new State();
        long[] places = new long[1200];

        Run(Told b, long n, long z, int most, boolean two) {
            state.parts = 100 * n;
            if (n == 0) {
                empty = 0;
            }
            while (tenths < most && (state.parts != 0 || state.pace != 0)) {
                state.goTenth(b, z);
                places[(int) tenths] = state.place;
                tenths++;
                top = Math.max(top, state.pace);
                if (state.parts == 0 && empty == NONE) {
                    empty = tenths;
                    if (two) {
                        state.parts = 100 * n;
                    }
                }
            }
        }

        long when(long d) {
            for (int i = 0; i < tenths; i++) {
                if (places[i] >= d) {
                    return i + 1;
                }
            }
            return NONE;
        }
    }

    String text = "";
    Told laid;
    Told read;
    List<long[]> readings = new ArrayList<>();
    List<long[]> marks = new ArrayList<>();
    State boat = new State();
    List<State> kept = new ArrayList<>();

    PlainBoat() {
        text = "q20,30,5,9;b0,2,10;";
        lay();
        text = "";
    }

    private static boolean in(long x, long low, long high) {
        return low <= x && x <= high;
    }

    private static long place(Told b, long n) {
        return new Run(b, n, -1, 600, false).state.place;
    }

    int write(int n, long v) {
        if (!in(n, 1, 8)) {
            return BAD;
        }
        if (text.length() + n > 300) {
            return FULL;
        }
        StringBuilder more = new StringBuilder();
        for (int i = 0; i < n; i++) {
            more.insert(0, (char) (v & 255));
            v >>= 8;
        }
        text += more;
        return text.length();
    }

    int wipe() {
        int was = text.length();
        text = "";
        return was;
    }

    int fault() {
        read = new Told();
        Matcher items = ITEM.matcher(text);
        int at = 0;
        while (at < text.length()) {
            items.region(at, text.length());
            if (!items.lookingAt() || !item(items.group(1).charAt(0), items.group(2).split(","))) {
                return at;
            }
            at = items.end();
        }
        return NONE;
    }

    private boolean item(char letter, String[] figures) {
        long[] x = new long[figures.length];
        for (int i = 0; i < x.length; i++) {
            x[i] = Long.parseLong(figures[i]);
        }
        if (letter == 'q') {
            if (x.length != 4 || !in(x[0], 1, 99) || !in(x[1], 0, 90) || !in(x[2], 1, 40) || !in(x[3], x[2], 99)
                    || read.stuffs.size() == 4) {
                return false;
            }
            read.stuffs.add(x);
            return true;
        }
        if (letter == 'b') {
            if (x.length != 3 || x[0] >= read.stuffs.size() || !in(x[1], 1, 8) || !in(x[2], 1, 40)) {
                return false;
            }
            long[] q = read.stuffs.get((int) x[0]);
            read.band = true;
            read.u = q[0];
            read.d = q[1];
            read.k = q[2];
            read.b = q[3];
            read.s = x[1];
            read.l = x[2];
            return true;
        }
        if (letter == 'p') {
            if (x.length != 2 || !in(x[0], 1, 9) || !in(x[1], 1, 20)) {
                return false;
            }
            read.p = x[0];
            read.a = x[1];
            return true;
        }
        if (letter == 'h') {
            if (x.length != 3 || !in(x[0], 1, 99) || !in(x[1], 1, 99) || !in(x[2], 0, 20)) {
                return false;
            }
            read.m = x[0];
            read.f = x[1];
            read.y = x[2];
            return true;
        }
        if (x.length != 1 || x[0] > (letter == 'r' ? 20 : letter == 'c' ? 30 : letter == 'a' ? 60 : 9)) {
            return false;
        }
        read.r = letter == 'r' ? x[0] : read.r;
        read.c = letter == 'c' ? x[0] : read.c;
        read.days = letter == 'a' ? x[0] : read.days;
        read.w = letter == 'w' ? x[0] : read.w;
        return true;
    }

    int lay() {
        if (fault() != NONE || !read.band) {
            return NO;
        }
        laid = read;
        boat = new State();
        readings.clear();
        marks.clear();
        kept.clear();
        return laid.stuffs.size();
    }

    int pull(int parts, boolean down) {
        if (!in(parts, 0, 40000)) {
            return BAD;
        }
        return (int) (down ? laid.down(parts) : laid.up(parts));
    }

    int run(int n, int z, int what) {
        if (!in(n, 0, 400) || !in(z, -1, 9999) || !in(what, 0, 4)) {
            return BAD;
        }
        Run r = new Run(laid, n, z, 600, false);
        long[] answers = {r.tenths, r.state.place, r.top, r.state.side + 10000000, r.empty};
        return (int) answers[what];
    }

    int when(int n, int z, int d) {
        if (!in(n, 0, 400) || !in(z, -1, 9999) || !in(d, 1, 99999)) {
            return BAD;
        }
        return (int) new Run(laid, n, z, 600, false).when(d);
    }

    long lost(int n, int what) {
        if (!in(n, 0, 400) || !in(what, 0, 1)) {
            return BAD;
        }
        long sum = 0;
        for (int i = 1; i <= n; i++) {
            sum += laid.up(100 * i) - (what == 0 ? laid.down(100 * i) : 0);
        }
        return sum;
    }

    int snap(int n) {
        return in(n, 0, 400) ? (int) laid.snap(n) : BAD;
    }

    int wise() {
        long most = -1;
        int wisest = -1;
        for (int n = 0; n <= 400; n++) {
            long worth = place(laid, n) * (1000 - laid.snap(n));
            if (worth > most) {
                most = worth;
                wisest = n;
            }
        }
        return wisest;
    }

    int best(int g, int n, int what) {
        if (!in(g, 1, 99) || !in(n, 0, 400) || !in(what, 0, 3)) {
            return BAD;
        }
        long[] found = {-1, 0, 0, 0};
        Told b = laid.copy();
        for (b.s = 1; b.s <= 8; b.s++) {
            for (b.l = 1; b.l <= 40; b.l++) {
                for (b.p = 1; b.p <= 9; b.p++) {
                    if (b.s * b.l <= g) {
                        long place = place(b, n);
                        if (place > found[0]) {
                            found = new long[] {place, b.s, b.l, b.p};
                        }
                    }
                }
            }
        }
        return (int) found[what];
    }

    int just(int d, int what) {
        if (!in(d, 0, 99999) || !in(what, 0, 1)) {
            return BAD;
        }
        long[] found = {0, 0};
        long off = Long.MAX_VALUE;
        for (int n = 0; n <= 400; n++) {
            long place = place(laid, n);
            if (Math.abs(place - d) < off) {
                off = Math.abs(place - d);
                found = new long[] {n, place};
            }
        }
        return (int) found[what];
    }

    int span(int n, int z, int what) {
        if (!in(n, 0, 400) || !in(z, 0, 9999) || !in(what, 0, 1)) {
            return BAD;
        }
        long least = Long.MAX_VALUE;
        long most = Long.MIN_VALUE;
        for (int i = 0; i < 10; i++) {
            long place = new Run(laid, n, (z + i) % 10000, 600, false).state.place;
            least = Math.min(least, place);
            most = Math.max(most, place);
        }
        return (int) (what == 0 ? least : most);
    }

    int straight(int n, int what) {
        if (!in(n, 0, 400) || !in(what, 0, 1)) {
            return BAD;
        }
        Told b = laid.copy();
        long[] found = {0, 0};
        long off = Long.MAX_VALUE;
        for (b.r = 0; b.r <= 20; b.r++) {
            long side = new Run(b, n, -1, 600, false).state.side;
            if (Math.abs(side) < off) {
                off = Math.abs(side);
                found = new long[] {b.r, side + 10000000};
            }
        }
        return (int) found[what];
    }

    int two(int n) {
        return in(n, 1, 400) ? (int) new Run(laid, n, -1, 1200, true).state.place : BAD;
    }

    int reading(int n, int up, int down) {
        if (!in(n, 0, 400) || !in(up, 0, 9999) || !in(down, 0, 9999)) {
            return BAD;
        }
        if (readings.size() == 6) {
            return FULL;
        }
        readings.add(new long[] {n, up, down});
        return readings.size();
    }

    int fits(int e, int what) {
        if (!in(e, 0, 999) || !in(what, 0, 4)) {
            return BAD;
        }
        Told b = laid.copy();
        long[] found = {0, 1000, -1, 1000, -1};
        for (b.u = 1; b.u <= 99; b.u++) {
            for (b.d = 0; b.d <= 90; b.d++) {
                boolean fits = true;
                for (long[] r : readings) {
                    fits &= Math.abs(b.up(100 * r[0]) - r[1]) <= e && Math.abs(b.down(100 * r[0]) - r[2]) <= e;
                }
                if (fits) {
                    found = new long[] {found[0] + 1, Math.min(found[1], b.u), Math.max(found[2], b.u),
                        Math.min(found[3], b.d), Math.max(found[4], b.d)};
                }
            }
        }
        return what > 0 && found[0] == 0 ? NONE : (int) found[what];
    }

    int mark(int d, int t) {
        if (!in(d, 1, 99999) || !in(t, 0, 600)) {
            return BAD;
        }
        if (marks.size() == 4) {
            return FULL;
        }
        marks.add(new long[] {d, t});
        return marks.size();
    }

    int told(int e, int what) {
        if (!in(e, 0, 50) || !in(what, 0, 9)) {
            return BAD;
        }
        Told b = laid.copy();
        List<long[]> all = new ArrayList<>();
        for (b.s = 1; b.s <= 8; b.s++) {
            for (b.p = 1; b.p <= 9; b.p++) {
                for (int n = 10; n <= 400; n += 10) {
                    Run r = new Run(b, n, -1, 600, false);
                    boolean fits = true;
                    for (long[] m : marks) {
                        long when = r.when(m[0]);
                        fits &= when != NONE && in(when, m[1] - e, m[1]);
                    }
                    if (fits) {
                        all.add(new long[] {b.s, b.p, n});
                    }
                }
            }
        }
        if (what == 0) {
            return all.size();
        }
        if (all.isEmpty()) {
            return NONE;
        }
        if (what <= 3) {
            return (int) all.get(0)[what - 1];
        }
        int which = (what - 4) / 2;
        long least = all.stream().mapToLong(x -> x[which]).min().getAsLong();
        long most = all.stream().mapToLong(x -> x[which]).max().getAsLong();
        return (int) (what % 2 == 0 ? least : most);
    }

    int forget() {
        int were = readings.size() + marks.size();
        readings.clear();
        marks.clear();
        return were;
    }

    int wind(int n) {
        if (!in(n, 1, 400)) {
            return BAD;
        }
        if (boat.parts + 100 * n > 40000) {
            return NO;
        }
        boat.parts += 100 * n;
        return (int) boat.parts;
    }

    int go(int tenths, int z) {
        if (!in(tenths, 1, 99) || !in(z, -1, 9999)) {
            return BAD;
        }
        for (int i = 0; i < tenths; i++) {
            boat.goTenth(laid, z);
        }
        return (int) boat.place;
    }

    int weed() {
        int was = (int) boat.pace;
        boat.pace = 0;
        return was;
    }

    int now(int what) {
        if (!in(what, 0, 5)) {
            return BAD;
        }
        long[] answers = {boat.parts, boat.pace, boat.place, boat.turn + 10000, boat.side + 10000000, boat.tenth};
        return (int) answers[what];
    }

    int keep() {
        if (kept.size() == 2) {
            return FULL;
        }
        kept.add(boat.copy());
        return kept.size();
    }

    int back() {
        if (kept.isEmpty()) {
            return NO;
        }
        boat = kept.remove(kept.size() - 1);
        return kept.size();
    }

    int count(int what) {
        if (!in(what, 0, 4)) {
            return BAD;
        }
        int[] answers = {laid.stuffs.size(), text.length(), readings.size(), marks.size(), kept.size()};
        return answers[what];
    }
}
