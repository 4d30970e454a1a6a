import java.util.Arrays;

/** Promises 1 to 5, 11 and 12: what is drawn, closed and looked at. */
public final class DrawingTest {
    private static final int MAX = Integer.MAX_VALUE;
    private static final int MIN = Integer.MIN_VALUE;

    public static void main(String[] args) {
        newObject();
        fill();
        fillEdges();
        fillEmpty();
        fillLeavesThePicture();
        fillNoColour();
        blit();
        blitOverlapping();
        blitFullWidth();
        blitFromOutside();
        blitToOutside();
        blitOfNoSize();
        shade();
        shadeEdges();
        shadeRefused();
        frame();
        shown();
        at();
        Check.end();
    }

    private static int drawn(Screen s, int x, int y) {
        return s.at(TileScreen.NONE, x, y);
    }

    private static int countDrawn(Screen s, int colour) {
        int count = 0;
        for (int y = 0; y < 48; y++) {
            for (int x = 0; x < 64; x++) {
                if (drawn(s, x, y) == colour) {
                    count++;
                }
            }
        }
        return count;
    }

    private static void newObject() {
        Screen s = new Screen();
        Check.due("NONE", TileScreen.NONE, -1);
        Check.due("new: pixels of colour 0", countDrawn(s, 0), 3072);
        for (int v = 0; v < 3; v++) {
            Check.due("new: shown", s.shown(v), 0);
            Check.due("new: at", s.at(v, 63, 47), 0);
            for (int what = 0; what < 8; what++) {
                Check.due("new: about " + what, s.about(v, what), 0);
            }
            for (int kind = 0; kind < 7; kind++) {
                Check.due("new: bytesBy " + kind, s.bytesBy(v, kind), 0);
            }
            Check.due("new: onLine", s.onLine(v, 0), -1);
            Check.due("new: pump", s.pump(v), 0);
            Check.no("new: cut", s.cut(v));
        }
        Check.due("new: first frame", s.frame(), 1);
    }

    private static void fill() {
        Screen s = new Screen();
        Check.yes("fill", s.fill(6, 7, 3, 2, 65535));
        Check.due("fill: upper left", drawn(s, 6, 7), 65535);
        Check.due("fill: lower right", drawn(s, 8, 8), 65535);
        Check.due("fill: left of it", drawn(s, 5, 7), 0);
        Check.due("fill: right of it", drawn(s, 9, 8), 0);
        Check.due("fill: above it", drawn(s, 6, 6), 0);
        Check.due("fill: below it", drawn(s, 6, 9), 0);
        Check.due("fill: how many", countDrawn(s, 65535), 6);
        Check.yes("fill the last pixel", s.fill(63, 47, 1, 1, 9));
        Check.due("fill: last pixel", drawn(s, 63, 47), 9);
        Check.yes("fill all", s.fill(0, 0, 64, 48, 0));
        Check.due("fill: all", countDrawn(s, 0), 3072);
    }

    /** Each row: the arguments of a fill that must be refused and draw nothing. */
    private static void refusedFills(String why, int[][] rows) {
        Screen s = new Screen();
        s.fill(0, 0, 32, 48, 3);
        for (int[] r : rows) {
            Check.no(why + ": fill " + Arrays.toString(r), s.fill(r[0], r[1], r[2], r[3], r[4]));
        }
        Check.due(why + ": nothing was drawn", countDrawn(s, 3), 32 * 48);
        Check.due(why + ": nothing was drawn", countDrawn(s, 0), 32 * 48);
    }

    private static void fillEmpty() {
        refusedFills("empty", new int[][] {
            {0, 0, 0, 1, 5}, {0, 0, 1, 0, 5}, {0, 0, 0, 0, 5}, {9, 9, -1, 1, 5}, {9, 9, 1, -1, 5}, {9, 9, -2, -2, 5},
            {64, 0, 0, 1, 5}, {64, 48, 0, 0, 5}, {9, 9, MIN, 1, 5}, {9, 9, 1, MIN, 5}, {64, 0, -1, 1, 5}, {0, 48, 1, -1, 5},
        });
    }

    private static void fillLeavesThePicture() {
        refusedFills("leaves the picture", new int[][] {
            {-1, 0, 2, 1, 5}, {0, -1, 1, 2, 5}, {-1, -1, 1, 1, 5}, {0, 0, 65, 1, 5}, {0, 0, 1, 49, 5},
            {63, 0, 2, 1, 5}, {0, 47, 1, 2, 5}, {1, 0, 64, 1, 5}, {0, 1, 1, 48, 5}, {64, 0, 1, 1, 5}, {0, 48, 1, 1, 5},
            {1, 0, MAX, 1, 5}, {0, 1, 1, MAX, 5}, {MAX, 0, 1, 1, 5}, {0, MAX, 1, 1, 5}, {MAX, 0, MAX, 1, 5},
            {MIN, 0, MAX, 1, 5}, {0, MIN, 1, MAX, 5}, {MIN, 0, MIN, 1, 5}, {0, MIN, 1, MIN, 5},
        });
    }

    private static void fillNoColour() {
        refusedFills("no colour", new int[][] {
            {0, 0, 1, 1, -1}, {0, 0, 1, 1, 65536}, {0, 0, 1, 1, MAX}, {0, 0, 1, 1, MIN}, {0, 0, 64, 48, 65536},
        });
    }

    private static void fillEdges() {
        Screen s = new Screen();
        Check.yes("the first pixel", s.fill(0, 0, 1, 1, 65535));
        Check.yes("the last pixel", s.fill(63, 47, 1, 1, 65535));
        Check.due("the last colour", drawn(s, 0, 0), 65535);
        Check.due("the last colour", drawn(s, 63, 47), 65535);
        Check.yes("the whole first row", s.fill(0, 0, 64, 1, 7));
        Check.yes("the whole last column", s.fill(63, 0, 1, 48, 7));
        Check.due("a row and a column", countDrawn(s, 7), 64 + 47);
        Check.yes("the whole picture", s.fill(0, 0, 64, 48, 0));
        Check.due("the first colour", countDrawn(s, 0), 3072);
    }

    private static void blit() {
        Screen s = new Screen();
        s.fill(3, 2, 1, 1, 11);
        s.fill(4, 3, 1, 1, 12);
        s.fill(20, 30, 5, 5, 13);
        Check.yes("blit", s.blit(64 * 2 + 3, 64 * 2 + 2, 21, 31));
        Check.due("blit: first", drawn(s, 21, 31), 11);
        Check.due("blit: last", drawn(s, 22, 32), 12);
        Check.due("blit: colour 0 is copied too", drawn(s, 22, 31), 0);
        Check.due("blit: colour 0 is copied too", drawn(s, 21, 32), 0);
        Check.due("blit: the rest stays", countDrawn(s, 13), 21);
        Check.due("blit: the source stays", drawn(s, 3, 2), 11);
        Check.yes("blit of one pixel to the last one", s.blit(64 * 2 + 3, 65, 63, 47));
        Check.due("blit: last pixel", drawn(s, 63, 47), 11);
        Check.yes("blit of the last pixel", s.blit(3071, 65, 0, 0));
        Check.due("blit: from the last pixel", drawn(s, 0, 0), 11);
    }

    private static void blitOverlapping() {
        for (int way = 0; way < 9; way++) {
            int dx = way % 3 - 1;
            int dy = way / 3 - 1;
            Screen s = new Screen();
            for (int y = 0; y < 6; y++) {
                for (int x = 0; x < 6; x++) {
                    s.fill(10 + x, 10 + y, 1, 1, 100 + 10 * y + x);
                }
            }
            Check.yes("blit onto itself", s.blit(64 * 10 + 10, 64 * 6 + 6, 10 + dx, 10 + dy));
            for (int y = 0; y < 6; y++) {
                for (int x = 0; x < 6; x++) {
                    Check.due("blit by " + dx + ", " + dy, drawn(s, 10 + x + dx, 10 + y + dy), 100 + 10 * y + x);
                }
            }
        }
    }

    private static void blitFullWidth() {
        Screen s = new Screen();
        s.fill(0, 0, 64, 1, 3);
        Check.yes("blit 64 wide, 1 high", s.blit(0, 64 + 64, 0, 5));
        Check.due("blit: left", drawn(s, 0, 5), 3);
        Check.due("blit: right", drawn(s, 63, 5), 3);
        Check.due("blit: one row", countDrawn(s, 3), 128);
        Check.yes("blit of all", s.blit(0, 64 * 48 + 64, 0, 0));
        Check.due("blit of all changes nothing", countDrawn(s, 3), 128);
        Check.yes("blit 1 wide, 48 high", s.blit(0, 64 * 48 + 1, 63, 0));
    }

    /** Each row: the arguments of a blit that must be refused and draw nothing. */
    private static void refusedBlits(String why, int[][] rows) {
        Screen s = new Screen();
        s.fill(0, 0, 32, 48, 3);
        s.fill(63, 47, 1, 1, 4);
        for (int[] r : rows) {
            Check.no(why + ": blit " + Arrays.toString(r), s.blit(r[0], r[1], r[2], r[3]));
        }
        Check.due(why + ": nothing was drawn", countDrawn(s, 3), 32 * 48);
        Check.due(why + ": nothing was drawn", countDrawn(s, 4), 1);
    }

    private static void blitFromOutside() {
        refusedBlits("source leaves the picture", new int[][] {
            {-1, 65, 40, 0}, {-64, 65, 40, 0}, {-64, 129, 40, 0}, {3072, 65, 40, 0}, {3135, 65, 40, 0},
            {MIN, 65, 40, 0}, {MAX, 65, 40, 0}, {63, 66, 40, 0}, {64 * 47, 64 * 2 + 1, 40, 0}, {1, 128, 0, 1},
            {64, 64 * 48 + 1, 40, 0}, {3071, 64 * 2 + 2, 40, 0},
        });
    }

    private static void blitToOutside() {
        refusedBlits("target leaves the picture", new int[][] {
            {0, 65, -1, 0}, {0, 65, 0, -1}, {0, 65, 64, 0}, {0, 65, 0, 48}, {0, 66, 63, 0}, {0, 64 * 2 + 1, 40, 47},
            {0, 128, 1, 1}, {0, 64 * 48 + 1, 40, 1}, {0, 65, MAX, 0}, {0, 65, 40, MAX}, {0, 65, MIN, 0}, {0, 65, 40, MIN},
            {0, 64 + 2, MAX, 0}, {0, 64 * 2 + 1, 40, MAX},
        });
    }

    private static void blitOfNoSize() {
        refusedBlits("no such size", new int[][] {
            {0, 64, 40, 0}, {0, 1, 40, 0}, {0, 0, 40, 0}, {0, -1, 40, 0}, {0, -64, 40, 0}, {0, -63, 40, 0},
            {0, MIN, 40, 0}, {0, MAX, 40, 0}, {0, 64 * 49 + 1, 0, 0}, {0, 64 * 49 + 64, 0, 0}, {0, 64 * 48 + 65, 0, 0},
        });
    }

    private static void shade() {
        Screen s = new Screen();
        Check.yes("shade", s.shade(10, 3, 65530, 2));
        for (int k = 0; k < 8; k++) {
            Check.due("shade: pixel " + k, drawn(s, 16 + k, 8 + 3), (65530 + 2 * k) % 65536);
        }
        Check.due("shade: only a row", countDrawn(s, 0), 3072 - 7);
        Check.yes("shade down", s.shade(0, 0, 3, -1));
        Check.due("shade down", drawn(s, 4, 0), 65535);
        Check.due("shade down", drawn(s, 7, 0), 65532);
        Check.yes("shade by a great step", s.shade(47, 7, 1, MAX));
        Check.due("shade by a great step", drawn(s, 57, 47), 0);
        Check.due("shade by a great step", drawn(s, 63, 47), 65530);
        Check.yes("shade by the least step", s.shade(47, 6, 1, MIN));
        Check.due("shade by the least step", drawn(s, 63, 46), 1);
        Check.yes("shade by 0", s.shade(7, 0, 65535, 0));
        Check.due("shade by 0", drawn(s, 63, 0), 65535);
    }

    /** Each row: the arguments of a shade that must be refused and draw nothing. */
    private static void refusedShades(String why, int[][] rows) {
        Screen s = new Screen();
        for (int[] r : rows) {
            Check.no(why + ": shade " + Arrays.toString(r), s.shade(r[0], r[1], r[2], r[3]));
        }
        Check.due(why + ": nothing was drawn", countDrawn(s, 0), 3072);
    }

    private static void shadeRefused() {
        refusedShades("no such tile", new int[][] {{-1, 0, 5, 0}, {48, 0, 5, 0}, {MIN, 0, 5, 0}, {MAX, 0, 5, 0}});
        refusedShades("no such row", new int[][] {{0, -1, 5, 0}, {0, 8, 5, 0}, {9, -1, 5, 0}, {0, MAX, 5, 0}, {0, MIN, 5, 0}});
        refusedShades("no colour", new int[][] {{0, 0, -1, 1}, {0, 0, 65536, 0}, {0, 0, MAX, 1}, {0, 0, MIN, 0}});
    }

    private static void shadeEdges() {
        Screen s = new Screen();
        Check.yes("first tile, first row, first colour", s.shade(0, 0, 0, 1));
        Check.due("first pixel", drawn(s, 0, 0), 0);
        Check.due("last pixel of the row", drawn(s, 7, 0), 7);
        Check.yes("last tile, last row, last colour", s.shade(47, 7, 65535, 1));
        Check.due("the leftmost one is the last colour", drawn(s, 56, 47), 65535);
        Check.due("the next one is the first colour", drawn(s, 57, 47), 0);
        Check.due("last pixel of the picture", drawn(s, 63, 47), 6);
        Check.yes("a step of all colours", s.shade(8, 1, 9, 65536));
        Check.due("leads to itself", drawn(s, 7, 9), 9);
        Check.yes("a step down from 0", s.shade(7, 7, 0, -1));
        Check.due("leads to the last colour", drawn(s, 57, 7), 65535);
        Check.due("and on", drawn(s, 63, 7), 65529);
    }

    private static void frame() {
        Screen s = new Screen();
        s.fill(0, 0, 9, 1, 5);
        Check.due("not closed yet", s.about(0, 5), 0);
        Check.due("frame", s.frame(), 1);
        Check.due("closed", s.about(0, 5), 2);
        s.fill(0, 0, 64, 48, 6);
        Check.due("drawing leaves the closed picture alone", s.about(0, 5), 2);
        Check.due("frame", s.frame(), 2);
        Check.due("closed", s.about(0, 5), 48);
        Check.due("a frame without a change", s.frame(), 3);
    }

    private static void shown() {
        Screen s = new Screen();
        s.join(1);
        s.frame();
        s.frame();
        Check.due("shown before it came", s.shown(1), 0);
        s.credit(1, 7);
        Check.due("pump", s.pump(1), 7);
        Check.due("shown", s.shown(1), 2);
        Check.due("shown by another viewer", s.shown(0), 0);
        s.cut(1);
        Check.due("shown after a cut", s.shown(1), 2);
        for (int v : new int[] {-1, 3, MAX, MIN}) {
            Check.due("shown by no viewer", s.shown(v), -1);
        }
    }

    private static void at() {
        Screen s = new Screen();
        s.join(2);
        s.fill(63, 47, 1, 1, 8);
        s.frame();
        s.credit(2, 100);
        s.pump(2);
        s.fill(63, 47, 1, 1, 9);
        Check.due("at of a viewer", s.at(2, 63, 47), 8);
        Check.due("at of another viewer", s.at(1, 63, 47), 0);
        Check.due("at of the server", s.at(-1, 63, 47), 9);
        for (int v : new int[] {-2, 3, MAX, MIN}) {
            Check.due("at of no viewer", s.at(v, 0, 0), -1);
        }
        for (int v = -1; v < 3; v++) {
            Check.due("at left of the picture", s.at(v, -1, 0), -1);
            Check.due("at above the picture", s.at(v, 0, -1), -1);
            Check.due("at right of the picture", s.at(v, 64, 0), -1);
            Check.due("at below the picture", s.at(v, 0, 48), -1);
            Check.due("at far from the picture", s.at(v, MAX, MIN), -1);
        }
    }
}
