/** A boat with a rubber band; README.md says how it is used. */
public final class BandBoat {
    public static final int BAD = -1, NO = -2, FULL = -3, NONE = -4;

    private static final int TEXT_MOST = 300;
    private static final int STUFFS_MOST = 4;
    private static final int STUFF_NUMBERS = 4;
    private static final int STRANDS_MOST = 8;
    private static final int LENGTH_MOST = 40;
    private static final int PITCH_MOST = 9;
    private static final int RUDDER_MOST = 20;
    private static final int PULLS_MOST = 99;
    private static final int LOSES_MOST = 90;
    private static final int RUBBER_MOST = 99;
    private static final int TURNS_MOST = 400;
    private static final int TURN_PARTS = 100;
    private static final int PARTS_MOST = 40000;
    private static final int PACE_MOST = 999;
    private static final int TURN_OFF_MOST = 9999;
    private static final int SIDE_MOST = 9999999;
    private static final int TURN_OFF_ZERO = 10000;
    private static final int SIDE_ZERO = 10000000;
    private static final int TENTHS_MOST = 600;
    private static final int TWO_TENTHS_MOST = 1200;
    private static final int GO_MOST = 99;
    private static final int Z_MOST = 9999;
    private static final int Z_CALM = -1;
    private static final int PLACE_MOST = 99999;
    private static final int SNAP_MOST = 1000;
    private static final int GAUGE_MOST = 9999;
    private static final int FITS_OFF_MOST = 999;
    private static final int TOLD_OFF_MOST = 50;
    private static final int TOLD_STEP = 10;
    private static final int READINGS_MOST = 6;
    private static final int MARKS_MOST = 4;
    private static final int KEPT_MOST = 2;
    private static final int SPAN_RUNS = 10;

    private final Script script = new Script();
    private final Reader reader = new Reader();
    private final Rig laid = new Rig();
    private final Rig tried = new Rig();
    private final Band band = new Band();
    private final Trial trial = new Trial();
    private final Gauge gauge = new Gauge();
    private final Marks marks = new Marks();
    private final Motion boat = new Motion();
    private final Motion[] kept = new Motion[KEPT_MOST];
    private int keptCount;
    /** PLACE of the RUN without WIND by its turns, once it is known. */
    private final int[] calmPlaces = new int[TURNS_MOST + 1];
    private boolean calmPlacesKnown;
    private final Memo bestMemo = new Memo(4);
    private final Memo spanMemo = new Memo(2);
    private final Memo straightMemo = new Memo(2);
    private final Memo fitsMemo = new Memo(5);
    private final Memo toldMemo = new Memo(10);

    public BandBoat() {
        for (int i = 0; i < kept.length; i++) {
            kept[i] = new Motion();
        }
        laid.layFirst();
        band.fit(laid);
    }

    // ---- boats

    public int write(int n, long v) {
        if (!within(n, 1, 8)) {
            return BAD;
        }
        return script.append(n, v) ? script.length : FULL;
    }

    public int wipe() {
        int before = script.length;
        script.length = 0;
        return before;
    }

    public int fault() {
        return reader.readAll(script);
    }

    public int lay() {
        if (reader.readAll(script) != NONE || !reader.rig.banded) {
            return NO;
        }
        laid.copy(reader.rig);
        band.fit(laid);
        boat.rest();
        gauge.readings = 0;
        marks.marked = 0;
        keptCount = 0;
        dropMemos();
        return laid.stuffs;
    }

    public int pull(int parts, boolean down) {
        if (!within(parts, 0, PARTS_MOST)) {
            return BAD;
        }
        return down ? band.loosed(parts) : band.wound(parts);
    }

    // ---- runs

    public int run(int n, int z, int what) {
        if (!isTurns(n) || !within(z, Z_CALM, Z_MOST) || !within(what, 0, 4)) {
            return BAD;
        }
        trial.make(laid, n, z, TENTHS_MOST, false);
        switch (what) {
            case 0: return trial.tenths;
            case 1: return trial.motion.place;
            case 2: return trial.topPace;
            case 3: return trial.motion.side + SIDE_ZERO;
            default: return trial.emptyAt;
        }
    }

    public int when(int n, int z, int d) {
        if (!isTurns(n) || !within(z, Z_CALM, Z_MOST) || !within(d, 1, PLACE_MOST)) {
            return BAD;
        }
        trial.make(laid, n, z, TENTHS_MOST, false);
        return trial.firstAt(d);
    }

    public long lost(int n, int what) {
        if (!isTurns(n) || !within(what, 0, 1)) {
            return BAD;
        }
        long wound = 0;
        long loosed = 0;
        for (int i = 1; i <= n; i++) {
            wound += band.wound(TURN_PARTS * i);
            loosed += band.loosed(TURN_PARTS * i);
        }
        return what == 0 ? wound - loosed : wound;
    }

    public int snap(int n) {
        return isTurns(n) ? snapOf(n) : BAD;
    }

    public int wise() {
        learnCalmPlaces();
        int wisest = 0;
        long most = -1;
        for (int n = 0; n < calmPlaces.length; n++) {
            long worth = (long) calmPlaces[n] * (SNAP_MOST - snapOf(n));
            if (worth > most) {
                most = worth;
                wisest = n;
            }
        }
        return wisest;
    }

    // ---- what is best

    public int best(int g, int n, int what) {
        if (!within(g, 1, RUBBER_MOST) || !isTurns(n) || !within(what, 0, 3)) {
            return BAD;
        }
        if (!bestMemo.holds(g, n)) {
            searchBest(g, n);
        }
        return bestMemo.answer(what);
    }

    public int just(int d, int what) {
        if (!within(d, 0, PLACE_MOST) || !within(what, 0, 1)) {
            return BAD;
        }
        learnCalmPlaces();
        int nearest = 0;
        for (int n = 1; n < calmPlaces.length; n++) {
            if (Math.abs(calmPlaces[n] - d) < Math.abs(calmPlaces[nearest] - d)) {
                nearest = n;
            }
        }
        return what == 0 ? nearest : calmPlaces[nearest];
    }

    public int span(int n, int z, int what) {
        if (!isTurns(n) || !within(z, 0, Z_MOST) || !within(what, 0, 1)) {
            return BAD;
        }
        if (!spanMemo.holds(n, z)) {
            searchSpan(n, z);
        }
        return spanMemo.answer(what);
    }

    public int straight(int n, int what) {
        if (!isTurns(n) || !within(what, 0, 1)) {
            return BAD;
        }
        if (!straightMemo.holds(n, 0)) {
            searchStraight(n);
        }
        return straightMemo.answer(what);
    }

    public int two(int n) {
        if (!within(n, 1, TURNS_MOST)) {
            return BAD;
        }
        trial.make(laid, n, Z_CALM, TWO_TENTHS_MOST, true);
        return trial.motion.place;
    }

    // ---- gauges, marks

    public int reading(int n, int up, int down) {
        if (!isTurns(n) || !within(up, 0, GAUGE_MOST) || !within(down, 0, GAUGE_MOST)) {
            return BAD;
        }
        if (!gauge.add(n, up, down)) {
            return FULL;
        }
        fitsMemo.drop();
        return gauge.readings;
    }

    public int fits(int e, int what) {
        if (!within(e, 0, FITS_OFF_MOST) || !within(what, 0, 4)) {
            return BAD;
        }
        if (!fitsMemo.holds(e, 0)) {
            searchFits(e);
        }
        return what > 0 && fitsMemo.answer(0) == 0 ? NONE : fitsMemo.answer(what);
    }

    public int mark(int d, int t) {
        if (!within(d, 1, PLACE_MOST) || !within(t, 0, TENTHS_MOST)) {
            return BAD;
        }
        if (!marks.add(d, t)) {
            return FULL;
        }
        toldMemo.drop();
        return marks.marked;
    }

    public int told(int e, int what) {
        if (!within(e, 0, TOLD_OFF_MOST) || !within(what, 0, 9)) {
            return BAD;
        }
        if (!toldMemo.holds(e, 0)) {
            searchTold(e);
        }
        return what > 0 && toldMemo.answer(0) == 0 ? NONE : toldMemo.answer(what);
    }

    public int forget() {
        int before = gauge.readings + marks.marked;
        gauge.readings = 0;
        marks.marked = 0;
        fitsMemo.drop();
        toldMemo.drop();
        return before;
    }

    // ---- the boat

    public int wind(int n) {
        if (!within(n, 1, TURNS_MOST)) {
            return BAD;
        }
        if (boat.parts + TURN_PARTS * n > PARTS_MOST) {
            return NO;
        }
        boat.parts += TURN_PARTS * n;
        return boat.parts;
    }

    public int go(int tenths, int z) {
        if (!within(tenths, 1, GO_MOST) || !within(z, Z_CALM, Z_MOST)) {
            return BAD;
        }
        for (int i = 0; i < tenths; i++) {
            boat.step(laid, band, z);
        }
        return boat.place;
    }

    public int weed() {
        int before = boat.pace;
        boat.pace = 0;
        return before;
    }

    public int now(int what) {
        switch (what) {
            case 0: return boat.parts;
            case 1: return boat.pace;
            case 2: return boat.place;
            case 3: return boat.turn + TURN_OFF_ZERO;
            case 4: return boat.side + SIDE_ZERO;
            case 5: return boat.tenth;
            default: return BAD;
        }
    }

    public int keep() {
        Motion free = keptAt(keptCount);
        if (free == null) {
            return FULL;
        }
        free.copy(boat);
        keptCount++;
        return keptCount;
    }

    public int back() {
        Motion last = keptAt(keptCount - 1);
        if (last == null) {
            return NO;
        }
        boat.copy(last);
        keptCount--;
        return keptCount;
    }

    public int count(int what) {
        switch (what) {
            case 0: return laid.stuffs;
            case 1: return script.length;
            case 2: return gauge.readings;
            case 3: return marks.marked;
            case 4: return keptCount;
            default: return BAD;
        }
    }

    // ---- how the answers are found

    private static boolean within(int x, int low, int high) {
        return x >= low && x <= high;
    }

    private static boolean isTurns(int n) {
        return within(n, 0, TURNS_MOST);
    }

    private static int limit(int x, int low, int high) {
        return x < low ? low : x > high ? high : x;
    }

    /** Divides, cut towards 0; no divisor that a TEXT can tell is 0. */
    private static int cut(int x, int by) {
        return by == 0 ? 0 : x / by;
    }

    /** Where a boat is KEPT, or null where there is no such place. */
    private Motion keptAt(int which) {
        return which >= 0 && which < kept.length ? kept[which] : null;
    }

    private void dropMemos() {
        calmPlacesKnown = false;
        bestMemo.drop();
        spanMemo.drop();
        straightMemo.drop();
        fitsMemo.drop();
        toldMemo.drop();
    }

    private void learnCalmPlaces() {
        if (calmPlacesKnown) {
            return;
        }
        for (int n = 0; n < calmPlaces.length; n++) {
            trial.make(laid, n, Z_CALM, TENTHS_MOST, false);
            calmPlaces[n] = trial.motion.place;
        }
        calmPlacesKnown = true;
    }

    private int snapOf(int n) {
        int safe = cut(10 * laid.snaps * laid.length, laid.strands);
        int parts = TURN_PARTS * n;
        if (parts <= safe) {
            return 0;
        }
        return Math.min((parts - safe) / 10 + 5 * laid.days, SNAP_MOST);
    }

    private void searchBest(int g, int n) {
        tried.copy(laid);
        bestMemo.learn(g, n);
        bestMemo.put(0, -1);
        for (int s = 1; s <= STRANDS_MOST; s++) {
            for (int l = 1; l <= LENGTH_MOST && s * l <= g; l++) {
                tried.strands = s;
                tried.length = l;
                searchPitch(n);
            }
        }
    }

    private void searchPitch(int n) {
        for (int p = 1; p <= PITCH_MOST; p++) {
            tried.pitch = p;
            trial.make(tried, n, Z_CALM, TENTHS_MOST, false);
            if (trial.motion.place > bestMemo.answer(0)) {
                bestMemo.put(0, trial.motion.place);
                bestMemo.put(1, tried.strands);
                bestMemo.put(2, tried.length);
                bestMemo.put(3, p);
            }
        }
    }

    private void searchSpan(int n, int z) {
        spanMemo.learn(n, z);
        for (int i = 0; i < SPAN_RUNS; i++) {
            trial.make(laid, n, (z + i) % (Z_MOST + 1), TENTHS_MOST, false);
            int place = trial.motion.place;
            if (i == 0 || place < spanMemo.answer(0)) {
                spanMemo.put(0, place);
            }
            if (i == 0 || place > spanMemo.answer(1)) {
                spanMemo.put(1, place);
            }
        }
    }

    private void searchStraight(int n) {
        tried.copy(laid);
        straightMemo.learn(n, 0);
        int least = SIDE_ZERO;
        for (int r = 0; r <= RUDDER_MOST; r++) {
            tried.rudder = r;
            trial.make(tried, n, Z_CALM, TENTHS_MOST, false);
            int off = Math.abs(trial.motion.side);
            if (off < least) {
                least = off;
                straightMemo.put(0, r);
                straightMemo.put(1, trial.motion.side + SIDE_ZERO);
            }
        }
    }

    private void searchFits(int e) {
        tried.copy(laid);
        fitsMemo.learn(e, 0);
        for (int u = 1; u <= PULLS_MOST; u++) {
            tried.pulls = u;
            trial.band.fit(tried);
            // U alone makes the PULL as it is wound: no D mends what is off there.
            if (gauge.agrees(trial.band, e, false)) {
                searchLoses(e);
            }
        }
    }

    private void searchLoses(int e) {
        for (int d = 0; d <= LOSES_MOST; d++) {
            tried.loses = d;
            trial.band.fit(tried);
            if (gauge.agrees(trial.band, e, true)) {
                boolean first = fitsMemo.answer(0) == 0;
                fitsMemo.put(0, fitsMemo.answer(0) + 1);
                fitsMemo.widen(1, first, tried.pulls);
                fitsMemo.widen(3, first, d);
            }
        }
    }

    private void searchTold(int e) {
        tried.copy(laid);
        toldMemo.learn(e, 0);
        int most = marks.latest();
        for (int s = 1; s <= STRANDS_MOST; s++) {
            for (int p = 1; p <= PITCH_MOST; p++) {
                tried.strands = s;
                tried.pitch = p;
                for (int n = TOLD_STEP; n <= TURNS_MOST; n += TOLD_STEP) {
                    // No MARK asks what comes behind the latest one.
                    trial.make(tried, n, Z_CALM, most, false);
                    if (marks.agree(trial, e)) {
                        noteTold(n);
                    }
                }
            }
        }
    }

    private void noteTold(int n) {
        boolean first = toldMemo.answer(0) == 0;
        toldMemo.put(0, toldMemo.answer(0) + 1);
        if (first) {
            toldMemo.put(1, tried.strands);
            toldMemo.put(2, tried.pitch);
            toldMemo.put(3, n);
        }
        toldMemo.widen(4, first, tried.strands);
        toldMemo.widen(6, first, tried.pitch);
        toldMemo.widen(8, first, n);
    }

    /** THE TEXT. */
    private static final class Script {
        private final byte[] bytes = new byte[TEXT_MOST];
        private int length;

        private Script() {
        }

        /** Whether there was room for them. */
        private boolean append(int n, long v) {
            if (n > bytes.length - length) {
                return false;
            }
            for (int i = 0; i < n && length >= 0 && length < bytes.length; i++) {
                bytes[length] = (byte) (v >> 8 * (n - 1 - i));
                length++;
            }
            return true;
        }

        /** The byte at a place, -1 where there is none. */
        private int at(int place) {
            return place >= 0 && place < length && place < bytes.length ? bytes[place] & 255 : -1;
        }
    }

    /** Reads a TEXT, ITEM by ITEM. */
    private static final class Reader {
        private static final int FAULTY = -1;
        private static final int FIGURES_MOST = 3;

        private final Rig rig = new Rig();
        private final int[] stuffNumbers = new int[STUFFS_MOST * STUFF_NUMBERS];
        private final int[] numbers = new int[STUFF_NUMBERS];

        private Reader() {
        }

        /** The place of the first ITEM that is not so, or NONE; the rig is then as the TEXT tells. */
        private int readAll(Script script) {
            rig.clear();
            int at = 0;
            for (int items = 0; items < TEXT_MOST && at < script.length; items++) {
                int end = itemEnd(script, at);
                if (end == FAULTY) {
                    return at;
                }
                at = end;
            }
            return NONE;
        }

        private int itemEnd(Script script, int start) {
            int letter = script.at(start);
            int wanted = numbersOf(letter);
            int at = start + 1;
            for (int i = 0; i < wanted; i++) {
                at = numberEnd(script, at, i, i == wanted - 1 ? ';' : ',');
                if (at == FAULTY) {
                    return FAULTY;
                }
            }
            return wanted > 0 && take(letter) ? at : FAULTY;
        }

        private int numberEnd(Script script, int start, int which, int sign) {
            int value = 0;
            int at = start;
            while (at < start + FIGURES_MOST && within(script.at(at), '0', '9')) {
                value = 10 * value + script.at(at) - '0';
                at++;
            }
            if (at == start || script.at(at) != sign || !within(which, 0, numbers.length - 1)) {
                return FAULTY;
            }
            numbers[which] = value;
            return at + 1;
        }

        private static int numbersOf(int letter) {
            switch (letter) {
                case 'q': return STUFF_NUMBERS;
                case 'b':
                case 'h': return 3;
                case 'p': return 2;
                case 'r':
                case 'c':
                case 'a':
                case 'w': return 1;
                default: return 0;
            }
        }

        /** Whether the numbers of an ITEM are as told; if so, the rig takes them. */
        private boolean take(int letter) {
            int first = numbers[0];
            switch (letter) {
                case 'q': return takeStuff();
                case 'b': return takeBand();
                case 'p': return takeBlade();
                case 'h': return takeHull();
                case 'r':
                    rig.rudder = first;
                    return within(first, 0, RUDDER_MOST);
                case 'c':
                    rig.cold = first;
                    return within(first, 0, 30);
                case 'a':
                    rig.days = first;
                    return within(first, 0, 60);
                case 'w':
                    rig.gust = first;
                    return within(first, 0, 9);
                default: return false;
            }
        }

        private boolean takeStuff() {
            int from = STUFF_NUMBERS * rig.stuffs;
            if (!within(numbers[0], 1, PULLS_MOST) || !within(numbers[1], 0, LOSES_MOST)
                    || !within(numbers[2], 1, 40) || !within(numbers[3], numbers[2], 99)
                    || !within(from, 0, stuffNumbers.length - STUFF_NUMBERS)) {
                return false;
            }
            System.arraycopy(numbers, 0, stuffNumbers, from, STUFF_NUMBERS);
            rig.stuffs++;
            return true;
        }

        private boolean takeBand() {
            int from = STUFF_NUMBERS * numbers[0];
            if (!within(numbers[0], 0, rig.stuffs - 1) || !within(numbers[1], 1, STRANDS_MOST)
                    || !within(numbers[2], 1, LENGTH_MOST)
                    || !within(from, 0, stuffNumbers.length - STUFF_NUMBERS)) {
                return false;
            }
            rig.pulls = stuffNumbers[from];
            rig.loses = stuffNumbers[from + 1];
            rig.knots = stuffNumbers[from + 2];
            rig.snaps = stuffNumbers[from + 3];
            rig.strands = numbers[1];
            rig.length = numbers[2];
            rig.banded = true;
            return true;
        }

        private boolean takeBlade() {
            rig.pitch = numbers[0];
            rig.width = numbers[1];
            return within(rig.pitch, 1, PITCH_MOST) && within(rig.width, 1, 20);
        }

        private boolean takeHull() {
            rig.weight = numbers[0];
            rig.drag = numbers[1];
            rig.veer = numbers[2];
            return within(rig.weight, 1, 99) && within(rig.drag, 1, 99) && within(rig.veer, 0, 20);
        }
    }

    /** What a TEXT tells, with the numbers of the STUFF that its BAND is of. */
    private static final class Rig {
        private int stuffs;
        private boolean banded;
        private int pulls;
        private int loses;
        private int knots;
        private int snaps;
        private int strands;
        private int length;
        private int pitch;
        private int width;
        private int weight;
        private int drag;
        private int veer;
        private int rudder;
        private int cold;
        private int days;
        private int gust;

        private Rig() {
        }

        /** As an empty TEXT tells; the BAND of a new object stands in it, but is not told. */
        private void clear() {
            stuffs = 0;
            banded = false;
            pulls = 20;
            loses = 30;
            knots = 5;
            snaps = 9;
            strands = 2;
            length = 10;
            pitch = 4;
            width = 10;
            weight = 20;
            drag = 10;
            veer = 0;
            rudder = 0;
            cold = 0;
            days = 0;
            gust = 0;
        }

        /** As q20,30,5,9;b0,2,10; tells. */
        private void layFirst() {
            clear();
            stuffs = 1;
            banded = true;
        }

        private void copy(Rig other) {
            stuffs = other.stuffs;
            banded = other.banded;
            pulls = other.pulls;
            loses = other.loses;
            knots = other.knots;
            snaps = other.snaps;
            strands = other.strands;
            length = other.length;
            pitch = other.pitch;
            width = other.width;
            weight = other.weight;
            drag = other.drag;
            veer = other.veer;
            rudder = other.rudder;
            cold = other.cold;
            days = other.days;
            gust = other.gust;
        }
    }

    /** How the BAND of a rig pulls: what is the same for every T is worked out once. */
    private static final class Band {
        private int force;
        private int stretch;
        private int knot;
        private int warmth;
        private int returned;
        private int fresh;
        private int spinBy;

        private Band() {
        }

        private void fit(Rig rig) {
            force = rig.pulls * rig.strands;
            stretch = 10 * rig.length;
            knot = cut(10 * rig.knots * rig.length, rig.strands);
            warmth = 100 - rig.cold;
            returned = 100 - rig.loses;
            fresh = 100 - rig.days;
            spinBy = 10 + rig.pitch * rig.pitch;
        }

        private int wound(int parts) {
            if (stretch == 0) {
                return 0;
            }
            int plain = force * parts / stretch;
            if (parts > knot) {
                plain += 2 * force * (parts - knot) / stretch;
            }
            return plain * warmth / 100;
        }

        private int loosed(int parts) {
            return wound(parts) * returned / 100 * fresh / 100;
        }
    }

    /** How a boat is: its T, PACE, PLACE, TURN, SIDE and TENTH. */
    private static final class Motion {
        private int parts;
        private int pace;
        private int place;
        private int turn;
        private int side;
        private int tenth;
        /** The last TENTH changed neither T nor PACE: without WIND, none will. */
        private boolean steady;

        private Motion() {
        }

        private void rest() {
            parts = 0;
            pace = 0;
            place = 0;
            turn = 0;
            side = 0;
            tenth = 0;
            steady = false;
        }

        private void copy(Motion other) {
            parts = other.parts;
            pace = other.pace;
            place = other.place;
            turn = other.turn;
            side = other.side;
            tenth = other.tenth;
            steady = other.steady;
        }

        private boolean isOver() {
            return parts == 0 && pace == 0;
        }

        private void step(Rig rig, Band band, int z) {
            int spin = Math.min(cut(band.loosed(parts), band.spinBy), parts);
            int push = Math.max(rig.pitch * spin / 10 - pace, 0) * rig.width / 10;
            int drag = pace * pace * rig.drag / 1000 + gustOf(rig.gust, z);
            int before = pace;
            parts -= spin;
            pace = limit(pace + cut(push - drag, rig.weight), 0, PACE_MOST);
            steady = spin == 0 && pace == before;
            drift(rig, push);
        }

        /** What PACE and PUSH do to the PLACE, TURN and SIDE in a TENTH. */
        private void drift(Rig rig, int push) {
            place += pace;
            turn = limit(turn + (push * rig.veer - pace * rig.rudder) / 100, -TURN_OFF_MOST, TURN_OFF_MOST);
            side = limit(side + pace * turn / 1000, -SIDE_MOST, SIDE_MOST);
            tenth++;
        }

        private int gustOf(int most, int z) {
            if (z < 0 || most < 0) {
                return 0;
            }
            long x = 7919L * z + 6151L * tenth + 1;
            return (int) (x * x % 65521 % (most + 1));
        }
    }

    /** A RUN, with the PLACE behind each of its TENTHS (but those that only a RUN of TWO has). */
    private static final class Trial {
        private final Motion motion = new Motion();
        private final Band band = new Band();
        private final int[] path = new int[TENTHS_MOST + 1];
        private int tenths;
        private int topPace;
        private int emptyAt;

        private Trial() {
        }

        /** Runs from so many turns, to so many TENTHS at most; wound again once if it is a RUN of TWO. */
        private void make(Rig rig, int turns, int z, int most, boolean twice) {
            band.fit(rig);
            motion.rest();
            motion.parts = TURN_PARTS * turns;
            tenths = 0;
            topPace = 0;
            emptyAt = turns == 0 ? 0 : NONE;
            boolean calm = z < 0 || rig.gust == 0;
            for (int i = 1; i <= most && !motion.isOver(); i++) {
                if (calm && motion.steady) {
                    motion.drift(rig, 0);
                } else {
                    motion.step(rig, band, z);
                }
                note(i);
                if (twice && emptyAt == i) {
                    motion.parts = TURN_PARTS * turns;
                }
            }
        }

        private void note(int i) {
            tenths = i;
            topPace = Math.max(topPace, motion.pace);
            if (i < path.length) {
                path[i] = motion.place;
            }
            if (motion.parts == 0 && emptyAt == NONE) {
                emptyAt = i;
            }
        }

        /** The first TENTH behind which the PLACE is d or more, or NONE. */
        private int firstAt(int d) {
            for (int i = 1; i <= tenths && i < path.length; i++) {
                if (path[i] >= d) {
                    return i;
                }
            }
            return NONE;
        }

        /** Whether the PLACE was d or more behind TENTH t or an earlier one. */
        private boolean reachedBy(int t, int d) {
            int last = Math.min(t, tenths);
            return last > 0 && last < path.length && path[last] >= d;
        }
    }

    /** The READINGS. */
    private static final class Gauge {
        private final int[] turns = new int[READINGS_MOST];
        private final int[] ups = new int[READINGS_MOST];
        private final int[] downs = new int[READINGS_MOST];
        private int readings;

        private Gauge() {
        }

        private boolean add(int n, int up, int down) {
            if (!within(readings, 0, READINGS_MOST - 1)) {
                return false;
            }
            turns[readings] = n;
            ups[readings] = up;
            downs[readings] = down;
            readings++;
            return true;
        }

        /** Whether a band pulls as read, no more than e off, as it is wound or as it is let go. */
        private boolean agrees(Band band, int e, boolean down) {
            for (int i = 0; i < readings && i < READINGS_MOST; i++) {
                int parts = TURN_PARTS * turns[i];
                int off = down ? band.loosed(parts) - downs[i] : band.wound(parts) - ups[i];
                if (Math.abs(off) > e) {
                    return false;
                }
            }
            return true;
        }
    }

    /** The MARKS. */
    private static final class Marks {
        private final int[] places = new int[MARKS_MOST];
        private final int[] times = new int[MARKS_MOST];
        private int marked;

        private Marks() {
        }

        private boolean add(int d, int t) {
            if (!within(marked, 0, MARKS_MOST - 1)) {
                return false;
            }
            places[marked] = d;
            times[marked] = t;
            marked++;
            return true;
        }

        private int latest() {
            int most = 0;
            for (int i = 0; i < marked && i < MARKS_MOST; i++) {
                most = Math.max(most, times[i]);
            }
            return most;
        }

        /** Whether WHEN of each MARK is from t less e to t. */
        private boolean agree(Trial trial, int e) {
            for (int i = 0; i < marked && i < MARKS_MOST; i++) {
                // The PLACE never falls, so that two looks at it tell WHEN.
                if (!trial.reachedBy(times[i], places[i]) || trial.reachedBy(times[i] - e - 1, places[i])) {
                    return false;
                }
            }
            return true;
        }
    }

    /** The answers of the last search: the same search is asked for each of them. */
    private static final class Memo {
        private final int[] answers;
        private boolean known;
        private int first;
        private int second;

        private Memo(int size) {
            answers = new int[size < 0 ? 0 : size];
        }

        private boolean holds(int a, int b) {
            return known && first == a && second == b;
        }

        /** From now on the answers, all 0 at first, are those for a and b. */
        private void learn(int a, int b) {
            known = true;
            first = a;
            second = b;
            for (int i = 0; i < answers.length; i++) {
                answers[i] = 0;
            }
        }

        private void drop() {
            known = false;
        }

        private int answer(int which) {
            return which >= 0 && which < answers.length ? answers[which] : 0;
        }

        private void put(int which, int x) {
            if (which >= 0 && which < answers.length) {
                answers[which] = x;
            }
        }

        /** Two answers from one place on are the least and the greatest x. */
        private void widen(int from, boolean isFirst, int x) {
            if (isFirst || x < answer(from)) {
                put(from, x);
            }
            if (isFirst || x > answer(from + 1)) {
                put(from + 1, x);
            }
        }
    }
}
