/** Counts answers that are not as due, and ends a test by them. */
final class Check {
    private static int asked = 0;
    private static int wrong = 0;

    private Check() {
    }

    static void due(String what, long got, long want) {
        asked++;
        if (got != want) {
            wrong++;
            System.out.println(what + " answered " + got + ", due is " + want);
        }
    }

    static void yes(String what, boolean got) {
        due(what, got ? 1 : 0, 1);
    }

    static void no(String what, boolean got) {
        due(what, got ? 1 : 0, 0);
    }

    /** The bytes on a viewer's line, as the document numbers them. */
    static int[] line(Screen s, int v) {
        int[] bytes = new int[s.about(v, 2)];
        for (int k = 0; k < bytes.length; k++) {
            bytes[k] = s.onLine(v, k);
        }
        return bytes;
    }

    static void bytes(String what, int[] got, int... want) {
        due(what + ": number of bytes", got.length, want.length);
        for (int k = 0; k < got.length && k < want.length; k++) {
            due(what + ": byte " + k, got[k], want[k]);
        }
    }

    /** Whether a viewer shows just what is drawn. */
    static void showsDrawn(String what, Screen s, int v) {
        int differing = 0;
        for (int y = 0; y < 48; y++) {
            for (int x = 0; x < 64; x++) {
                if (s.at(v, x, y) != s.at(TileScreen.NONE, x, y)) {
                    differing++;
                }
            }
        }
        due(what + ": pixels not as drawn", differing, 0);
    }

    static void end() {
        System.out.println(asked + " answers, " + wrong + " not as due");
        if (wrong != 0) {
            System.exit(1);
        }
    }
}
