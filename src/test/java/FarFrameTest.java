/**
 * Promises 9, 11 and 13 with frames that a viewer shows far above the closed one: the class
 * answers as the Model does, and what is not the closed frame is sent again.
 */
public final class FarFrameTest {
    private static final long INTS = 1L << 32;
    private static final int PLENTY = 1000000;
    /** The update of the picture, with its length. */
    private static final int UPDATE = 3 + 5906;
    /** More than are shown by one spoilt update, of at least 7 bytes each. */
    private static final long MOST_FRAMES = UPDATE / 7;

    private final Screen screen = new Screen();
    private final Model model = new Model();

    public static void main(String[] args) {
        closedAgain(1);
        closedAgain(2);
        pastTheInts();
        Check.end();
    }

    private void fill(int x, int y, int w, int h, int colour) {
        Check.yes("fill", screen.fill(x, y, w, h, colour));
        model.fill(x, y, w, h, colour);
    }

    private void blit(int place, int size, int x, int y) {
        Check.yes("blit", screen.blit(place, size, x, y));
        model.blit(place, size, x, y);
    }

    /**
     * Tiles whose records, read from a wrong place on, are small whole updates without records:
     * runs and colours that tell a length of 4, a frame's number and its sum.
     */
    private void drawUpdatesInAnUpdate() {
        fill(1, 8, 1, 1, 1024);
        fill(2, 8, 2, 1, 256);
        fill(4, 8, 1, 1, 4);
        fill(5, 8, 2, 1, 1);
        blit(512, 71, 7, 8);
        for (int row = 0; row < 7; row++) {
            blit(512 + row, 72, 0, row);
        }
        int[][] last = {{1, 4040}, {3, 255}, {4, 65280}, {5, 12287}, {6, 65281}, {7, 12079}};
        for (int[] pixel : last) {
            fill(pixel[0], 7, 1, 1, pixel[1]);
        }
        blit(0, 520, 8, 0);
        blit(0, 528, 16, 0);
        blit(0, 544, 32, 0);
        blit(0, 576, 0, 8);
        blit(0, 1088, 0, 16);
        blit(0, 1088, 0, 32);
        for (int tile = 1; tile < 46; tile++) {
            fill(tile % 8 * 8 + 2, tile / 8 * 8 + 7, 1, 1, (175 + tile) * 256);
        }
        fill(0, 0, 8, 8, 65535);
        fill(0, 0, 1, 8, 7);
        fill(48, 40, 8, 8, 9);
        screen.shade(46, 7, 9, 1);
        model.shade(46, 7, 9, 1);
        fill(55, 47, 1, 1, 15);
        fill(56, 40, 8, 8, 3);
        fill(60, 40, 1, 8, 5);
    }

    private void frame() {
        Check.due("frame", screen.frame(), model.frame());
    }

    private void cut() {
        Check.yes("cut", screen.cut(0));
        model.cut(0);
    }

    private void join() {
        Check.yes("join", screen.join(0));
        model.join(0);
    }

    private int pump(int credit) {
        Check.due("credit", screen.credit(0, credit), model.credit(0, credit));
        int moved = screen.pump(0);
        Check.due("pump", moved, model.pump(0));
        return moved;
    }

    private void look() {
        Check.due("shown", screen.shown(0), model.shown(0));
        for (int what = 0; what < 8; what++) {
            Check.due("about " + what, screen.about(0, what), model.about(0, what));
        }
    }

    private void joinAndSpoil() {
        join();
        Check.yes("poison", screen.poison(0, 2, 23));
        model.poison(0, 2, 23);
    }

    /** The viewer shows one spoilt update after another, then just such a frame, and is cut. */
    private void goTo(long number) {
        for (int n = 0; n < 100 && model.views[0].own.number + MOST_FRAMES * 65536 < number; n++) {
            long before = model.views[0].own.number;
            joinAndSpoil();
            pump(PLENTY);
            Check.yes("more than one frame was shown", model.views[0].own.number > before + 65536);
        }
        joinAndSpoil();
        int bytes = 0;
        while (bytes < UPDATE && model.views[0].own.number < number) {
            model.credit(0, 1);
            bytes += model.pump(0);
        }
        Check.due("frame", model.views[0].own.number, number);
        screen.credit(0, bytes);
        Check.due("pump", screen.pump(0), bytes);
        look();
        cut();
    }

    /** The viewer shows 2 to the 32 and 1 when so many frames were closed. */
    private static void closedAgain(int frames) {
        FarFrameTest t = new FarFrameTest();
        t.drawUpdatesInAnUpdate();
        t.frame();
        t.goTo(INTS + 1);
        for (int n = 1; n < frames; n++) {
            t.frame();
        }
        t.join();
        t.look();
        Check.due("pump, " + frames + " closed", t.pump(PLENTY), UPDATE);
        Check.due("connected", t.screen.about(0, 0), 1);
        Check.due("SENT frame", t.screen.about(0, 6), frames);
        Check.due("sent again", t.screen.at(0, 1, 1), 65535);
        Check.due("nothing more to send", t.screen.pump(0), 0);
    }

    /** Numbers rise on where the int of the face has no room for them. */
    private static void pastTheInts() {
        FarFrameTest t = new FarFrameTest();
        t.drawUpdatesInAnUpdate();
        t.frame();
        t.goTo(INTS / 2 + 1);
        Check.due("lowest 32 bits", t.screen.shown(0), Integer.MIN_VALUE + 1);
        t.join();
        Check.due("SENT frame", t.screen.about(0, 6), Integer.MIN_VALUE + 1);
        Check.due("pump", t.pump(PLENTY), UPDATE);
        Check.due("lowest 32 bits", t.screen.shown(0), Integer.MIN_VALUE + 65537);
    }
}
