/** Asks an object for all that can be seen of it, what is KEPT and THE TEXT too; it is of no more use then. */
final class Witness {
    private final long[] answers = new long[200];
    private int count;

    private Witness() {
    }

    static long[] of(BandBoat x) {
        Witness w = new Witness();
        w.laid(x);
        w.best(x);
        w.gauges(x);
        w.boat(x);
        w.add(x.go(3, 5));
        for (int i = 0; i < 3; i++) {
            w.add(x.back());
            w.boat(x);
        }
        w.text(x);
        return java.util.Arrays.copyOf(w.answers, w.count);
    }

    private void add(long answer) {
        answers[count++] = answer;
    }

    private void laid(BandBoat x) {
        for (long answer : Check.answersOf(x)) {
            add(answer);
        }
        for (int what = 0; what <= 4; what++) {
            add(x.count(what));
        }
    }

    private void best(BandBoat x) {
        for (int what = 0; what <= 1; what++) {
            add(x.best(3, 60, 3 * what));
            add(x.just(500, what));
            add(x.span(60, 9995, what));
            add(x.straight(60, what));
        }
        add(x.wise());
        add(x.two(9));
        add(x.when(60, 4, 99));
    }

    private void gauges(BandBoat x) {
        for (int what = 0; what <= 4; what++) {
            add(x.fits(30, what));
        }
        for (int what = 0; what <= 9; what++) {
            add(x.told(20, what));
        }
    }

    private void boat(BandBoat x) {
        for (int what = 0; what <= 5; what++) {
            add(x.now(what));
        }
        add(x.count(4));
    }

    /** What is LAID from THE TEXT tells its bytes; a byte more tells where it ends. */
    private void text(BandBoat x) {
        add(x.forget());
        add(x.fault());
        add(x.lay());
        laid(x);
        add(x.write(1, 'r'));
        add(x.fault());
        add(x.wipe());
    }
}
