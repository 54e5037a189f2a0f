/** What the tests share: comparing, texts, the end. */
final class Check {
    private static int wrong = 0;
    private static int seen = 0;

    private Check() {
    }

    static void due(String call, long got, long want) {
        seen++;
        if (got != want) {
            wrong++;
            if (wrong <= 40) {
                System.out.println(call + " answered " + got + ", due is " + want);
            }
        }
    }

    static boolean allRight() {
        return wrong == 0;
    }

    /** Writes a text behind THE TEXT, as many bytes a call as go. */
    static void put(BandBoat x, String text) {
        int at = 0;
        while (at < text.length()) {
            int n = Math.min(8, text.length() - at);
            x.write(n, packed(text.substring(at, at + n)));
            at += n;
        }
    }

    static long packed(String bytes) {
        long v = 0;
        for (int i = 0; i < bytes.length(); i++) {
            v = v << 8 | bytes.charAt(i) & 255;
        }
        return v;
    }

    static BandBoat boat(String text) {
        BandBoat x = new BandBoat();
        put(x, text);
        due("lay of " + text, x.lay() < 1 ? 0 : 1, 1);
        return x;
    }

    static int faultOf(String text) {
        BandBoat x = new BandBoat();
        put(x, text);
        return x.fault();
    }

    static void end(String name) {
        System.out.println(name + ": " + seen + " answers looked at, " + wrong + " not as due");
        if (wrong != 0 || seen == 0) {
            System.exit(1);
        }
    }
}
