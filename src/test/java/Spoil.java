/** Updates whose bytes are spoilt on the line to viewer 0. */
final class Spoil {
    private Spoil() {
    }

    /** Viewer 0 is connected. */
    static Screen start() {
        Screen s = new Screen();
        s.join(0);
        return s;
    }

    /** Closes a frame and moves the first byte of its update, a zero. */
    static void compose(Screen s) {
        s.frame();
        s.credit(0, 1);
        Check.due("first byte", s.pump(0), 1);
    }

    /** Spoils bytes of the update whose first byte has gone: pairs of place and new value. */
    static void change(Screen s, int... pairs) {
        for (int k = 0; k < pairs.length; k += 2) {
            int old = s.onLine(0, pairs[k] - 1);
            Check.yes("poison", s.poison(0, pairs[k], old ^ pairs[k + 1]));
        }
    }

    /** Spoils bytes of records and makes the sum right again. */
    static void changeAndMend(Screen s, int... pairs) {
        int[] bytes = Check.line(s, 0);
        change(s, pairs);
        for (int k = 0; k < pairs.length; k += 2) {
            bytes[pairs[k] - 1] = pairs[k + 1];
        }
        int sum = 0;
        for (int k = 2; k < bytes.length - 2; k++) {
            sum += bytes[k];
        }
        change(s, bytes.length - 1, sum >> 8 & 255, bytes.length, sum & 255);
    }

    static void sendRest(Screen s) {
        int rest = s.about(0, 2);
        s.credit(0, rest);
        Check.due("rest", s.pump(0), rest);
    }

    static void dueWrong(String what, Screen s) {
        int before = s.shown(0);
        sendRest(s);
        Check.due(what + ": connected", s.about(0, 0), 0);
        Check.due(what + ": shown", s.shown(0), before);
        Check.due(what + ": came", s.about(0, 3), 0);
    }

    static void dueRight(String what, Screen s) {
        int before = s.shown(0);
        sendRest(s);
        Check.due(what + ": connected", s.about(0, 0), 1);
        Check.due(what + ": shown", s.shown(0), before + 1);
        Check.due(what + ": came", s.about(0, 3), 0);
    }

    static void paint(Screen s, int tile, String pixels) {
        for (int k = 0; k < 64; k++) {
            s.fill(tile % 8 * 8 + k % 8, tile / 8 * 8 + k / 8, 1, 1, pixels.charAt(k % pixels.length()) - 'a' + 1);
        }
    }

    /** An update of 11 bytes: 0 0 8, 0 1, 0 0 0 5, 0 6. */
    static Screen startSolid() {
        Screen s = start();
        s.fill(0, 0, 8, 8, 5);
        return s;
    }

    /** Two pixels of tile 0 on a ground of 0: MASK. */
    static void dots(Screen s, int colour) {
        s.fill(0, 0, 8, 8, 0);
        s.fill(0, 0, 1, 1, colour);
        s.fill(4, 4, 1, 1, colour);
    }
}
