/** What the tests share: comparing, texts, the end. */
final class Check {
    private static int wrong = 0;
    private static int seen = 0;

    private Check() {
    }

    static void due(String call, long got, long want) {
        seen++;
        if (got != want) {
            wrong++;
            if (wrong <= 40) {
                System.out.println(call + " answered " + got + ", due is " + want);
            }
        }
    }

    static boolean allRight() {
        return wrong == 0;
    }

    /** Writes a text behind THE TEXT, as many bytes a call as go. */
    static void put(BandBoat x, String text) {
        int at = 0;
        while (at < text.length()) {
            int n = Math.min(8, text.length() - at);
            x.write(n, packed(text.substring(at, at + n)));
            at += n;
        }
    }

    static long packed(String bytes) {
        long v = 0;
        for (int i = 0; i < bytes.length(); i++) {
            v = v << 8 | bytes.charAt(i) & 255;
        }
        return v;
    }

    static BandBoat boat(String text) {
        BandBoat x = new BandBoat();
        put(x, text);
        due("lay of " + text, x.lay() < 1 ? 0 : 1, 1);
        return x;
    }

    static void same(String what, long[] got, long[] want) {
        due(what + ": how many answers", got.length, want.length);
        for (int i = 0; i < got.length && i < want.length; i++) {
            due(what + ": answer " + i, got[i], want[i]);
        }
    }

    static void truth(String what, boolean holds) {
        due(what, holds ? 1 : 0, 1);
    }

    /** Answers that hang on every number that a TEXT can tell. */
    static long[] answersOf(BandBoat x) {
        return new long[] {x.count(0), x.pull(50, false), x.pull(777, false), x.pull(40000, false), x.pull(777, true),
            x.pull(40000, true), x.run(60, 77, 0), x.run(60, 77, 1), x.run(60, 77, 2), x.run(60, 77, 3), x.run(60, 77, 4),
            x.run(400, 9, 1), x.run(400, 9, 3), x.run(400, -1, 1), x.run(400, -1, 2), x.run(400, -1, 3), x.snap(3),
            x.snap(20), x.snap(95), x.lost(20, 0), x.lost(20, 1)};
    }

    static int faultOf(String text) {
        BandBoat x = new BandBoat();
        put(x, text);
        return x.fault();
    }

    static void end(String name) {
        System.out.println(name + ": " + seen + " answers looked at, " + wrong + " not as due");
        if (wrong != 0 || seen == 0) {
            System.exit(1);
        }
    }
}
