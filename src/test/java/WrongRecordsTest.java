import java.util.Arrays;

/** Records that aren't such, or go beyond the sum: the viewer breaks and shows nothing of them. */
public final class WrongRecordsTest {
    public static void main(String[] args) {
        wrongKind();
        wrongTile();
        tilesInAnyOrder();
        wrongCopy();
        wrongEntry();
        entryThatNeverCame();
        emptyCacheAfterJoin();
        wrongPalette();
        fiveColours();
        wrongRuns();
        manyRuns();
        beyondTheSum();
        cutShort();
        nothingOfAWrongUpdateIsShown();
        Check.end();
    }

    private static void wrongKind() {
        for (int kind : new int[] {7, 8, 128, 255}) {
            Screen s = Spoil.startSolid();
            Spoil.compose(s);
            Spoil.changeAndMend(s, 5, kind);
            Spoil.dueWrong("kind " + kind, s);
            s = Spoil.start();
            s.fill(0, 0, 16, 8, 5);
            Spoil.compose(s);
            Spoil.changeAndMend(s, 5, kind, 7, 1);
            Spoil.dueWrong("kind " + kind + ", then COPY twice", s);
        }
    }

    private static void wrongTile() {
        Screen s = Spoil.startSolid();
        Spoil.compose(s);
        Spoil.changeAndMend(s, 6, 47);
        Spoil.dueRight("tile 47", s);
        Check.due("tile 47", s.at(0, 63, 47), 5);
        Check.due("tile 0", s.at(0, 0, 0), 0);
        for (int tile : new int[] {48, 255}) {
            s = Spoil.startSolid();
            Spoil.compose(s);
            Spoil.changeAndMend(s, 6, tile);
            Spoil.dueWrong("tile " + tile, s);
            s = Spoil.start();
            s.fill(0, 0, 16, 8, 5);
            Spoil.compose(s);
            Spoil.changeAndMend(s, 6, tile, 7, 1);
            Spoil.dueWrong("tile " + tile + ", then COPY twice", s);
        }
    }

    private static void tilesInAnyOrder() {
        Screen s = Spoil.start();
        s.fill(0, 0, 16, 8, 5);
        Spoil.compose(s);
        Spoil.changeAndMend(s, 6, 9, 10, 3);
        Spoil.dueRight("tiles 9 and 3", s);
        Check.due("tile 9", s.at(0, 8, 8), 5);
        Check.due("tile 3", s.at(0, 24, 0), 5);
        Check.due("tile 0", s.at(0, 0, 0), 0);
    }

    /** An update with COPY alone: 1 8 2. */
    private static Screen startCopy() {
        Screen s = Spoil.start();
        s.fill(16, 0, 8, 8, 7);
        Spoil.compose(s);
        Spoil.sendRest(s);
        s.blit(16, 520, 0, 8);
        Spoil.compose(s);
        Check.bytes("COPY", Check.line(s, 0), 0, 7, 0, 2, 1, 8, 2, 0, 13);
        return s;
    }

    private static void wrongCopy() {
        Screen s = startCopy();
        Spoil.changeAndMend(s, 7, 47);
        Spoil.dueRight("COPY of 47", s);
        Check.due("COPY of 47", s.at(0, 0, 8), 0);
        for (int tile : new int[] {48, 255}) {
            s = startCopy();
            Spoil.changeAndMend(s, 7, tile);
            Spoil.dueWrong("COPY of " + tile, s);
        }
    }

    /** An update with CACHED 0 alone, of so many that were put in. */
    private static Screen startCached(int many) {
        Screen s = Spoil.start();
        for (int k = 0; k < many; k++) {
            Spoil.dots(s, 101 + k);
            Spoil.compose(s);
            Spoil.sendRest(s);
        }
        s.fill(0, 0, 8, 8, 0);
        Spoil.compose(s);
        Spoil.sendRest(s);
        Spoil.dots(s, 101);
        Spoil.compose(s);
        Check.due("CACHED", s.onLine(0, 4), 2);
        Check.due("CACHED at 0", s.onLine(0, 6), 0);
        return s;
    }

    private static void wrongEntry() {
        Screen s = startCached(1);
        Spoil.changeAndMend(s, 7, 1);
        Spoil.dueWrong("entry that wasn't put in", s);
        s = startCached(2);
        Spoil.changeAndMend(s, 7, 1);
        Spoil.dueRight("entry that was put in", s);
        Check.due("entry 1", s.at(0, 0, 0), 102);
        s = startCached(16);
        Spoil.changeAndMend(s, 7, 15);
        Spoil.dueRight("entry 15", s);
        Check.due("entry 15", s.at(0, 0, 0), 116);
        for (int entry : new int[] {16, 255}) {
            s = startCached(16);
            Spoil.changeAndMend(s, 7, entry);
            Spoil.dueWrong("entry " + entry, s);
        }
    }

    /** RUNS that came as three SOLID put nothing into the viewer's cache, but into the server's. */
    private static void entryThatNeverCame() {
        Screen s = startRuns();
        Spoil.changeAndMend(s, 5, 0, 13, 0);
        Spoil.dueRight("three SOLID", s);
        Check.due("the first one", s.at(0, 0, 0), 3 * 256 + 27);
        Check.due("the second one", s.at(0, 8, 0), 2 * 256);
        Check.due("the third one", s.at(0, 24, 32), 1);
        Check.due("PLACE", s.about(0, 7), 1);
        s.fill(0, 0, 8, 8, 0);
        Spoil.compose(s);
        Spoil.dueRight("COPY", s);
        drawRuns(s);
        Spoil.compose(s);
        Check.due("CACHED", s.onLine(0, 4), 2);
        Spoil.dueWrong("CACHED that the viewer hasn't", s);
    }

    private static void emptyCacheAfterJoin() {
        for (int broken = 0; broken < 2; broken++) {
            Screen s = Spoil.start();
            Spoil.dots(s, 101);
            Spoil.compose(s);
            Spoil.dueRight("MASK", s);
            if (broken == 1) {
                Spoil.dots(s, 102);
                Spoil.compose(s);
                Spoil.change(s, 19, 255);
                Spoil.dueWrong("wrong sum", s);
            } else {
                s.cut(0);
            }
            s.join(0);
            s.fill(0, 0, 8, 8, 0);
            Spoil.compose(s);
            Spoil.changeAndMend(s, 5, 2, 7, 0);
            Spoil.dueWrong("entry 0 of an empty cache", s);
        }
    }

    /** PALETTE of three colours at tile 0, SOLID at tile 1, which a wrong count would eat. */
    private static Screen startPalette() {
        Screen s = Spoil.start();
        Spoil.paint(s, 0, "babababaaaaaaaaaaaaaaaaaaaaaaaaaaaaaaaaaaaaaaaaaaaaaaaaabbbabbba");
        s.fill(7, 7, 1, 1, 256);
        s.fill(8, 0, 8, 8, 5);
        Spoil.compose(s);
        Check.due("PALETTE", s.onLine(0, 4), 4);
        Check.due("of three", s.onLine(0, 6), 3);
        Check.due("bytes", s.about(0, 2), 2 + 2 + 25 + 4 + 2);
        Check.due("last but one byte of the pixels", s.onLine(0, 27), 1);
        Check.due("last byte of the pixels", s.onLine(0, 28), 2);
        return s;
    }

    private static void wrongPalette() {
        for (int count : new int[] {0, 1, 2, 5, 255}) {
            Screen s = startPalette();
            Spoil.changeAndMend(s, 7, count);
            Spoil.dueWrong("PALETTE of " + count, s);
        }
        Screen s = startPalette();
        Spoil.changeAndMend(s, 29, 128);
        Spoil.dueRight("pixels of the three colours", s);
        Check.due("third colour", s.at(0, 4, 7), 256);
        Check.due("first colour", s.at(0, 7, 7), 2);
        s = startPalette();
        Spoil.changeAndMend(s, 29, 3);
        Spoil.dueWrong("last pixel of a fourth colour", s);
        s = startPalette();
        Spoil.changeAndMend(s, 14, 192);
        Spoil.dueWrong("first pixel of a fourth colour", s);
    }

    /** What follows is made of records too if five colours are read where four went. */
    private static void fiveColours() {
        for (int colours = 4; colours <= 5; colours++) {
            Screen s = Spoil.start();
            Spoil.paint(s, 0, "abcd");
            s.fill(8, 0, 8, 8, 0x0105);
            s.fill(16, 0, 8, 8, 0x0900);
            Spoil.compose(s);
            Check.due("PALETTE", s.onLine(0, 4), 4);
            Check.due("of four", s.onLine(0, 6), 4);
            Check.bytes("SOLID twice", Arrays.copyOfRange(Check.line(s, 0), 31, 39), 0, 1, 1, 5, 0, 2, 9, 0);
            Spoil.changeAndMend(s, 7, colours);
            if (colours == 4) {
                Spoil.dueRight("four colours", s);
            } else {
                Spoil.dueWrong("five colours", s);
            }
        }
    }

    /** RUNS of three at tile 0: 5 0 3, 27 0 1, 2 0 2, 35 0 1. */
    private static Screen startRuns() {
        Screen s = Spoil.start();
        drawRuns(s);
        Spoil.compose(s);
        Check.due("RUNS", s.onLine(0, 4), 5);
        return s;
    }

    private static void drawRuns(Screen s) {
        s.fill(0, 0, 8, 8, 1);
        s.fill(3, 3, 2, 1, 2);
    }

    private static void wrongRuns() {
        Screen s = startRuns();
        Spoil.changeAndMend(s, 8, 1, 11, 62, 14, 1);
        Spoil.dueRight("runs of 64 in all", s);
        Check.due("first", s.at(0, 0, 0), 1);
        Check.due("second", s.at(0, 1, 0), 2);
        Check.due("last but one", s.at(0, 6, 7), 2);
        Check.due("last", s.at(0, 7, 7), 1);
        int[][] wrong = {{26, 2, 35}, {28, 2, 35}, {27, 37, 35}, {29, 0, 35}, {0, 29, 35}, {29, 35, 0}, {255, 2, 35}};
        for (int[] w : wrong) {
            s = startRuns();
            Spoil.changeAndMend(s, 8, w[0], 11, w[1], 14, w[2]);
            Spoil.dueWrong("runs " + Arrays.toString(w), s);
        }
        s = startRuns();
        Spoil.changeAndMend(s, 6, 47, 11, 37);
        Spoil.dueWrong("runs that would leave the picture", s);
        s = startRuns();
        Spoil.changeAndMend(s, 7, 0, 8, 1, 11, 1, 14, 1);
        Spoil.dueWrong("no runs, then COPY three times", s);
        s = startRuns();
        Spoil.changeAndMend(s, 7, 2, 8, 62, 14, 1);
        Spoil.dueRight("two runs, then COPY", s);
    }

    /**
     * Two RAW tiles whose bytes, if the first kind becomes RUNS, are 64 runs of one pixel each,
     * then COPY of tiles that stay as they are, then SOLID at tiles 30 and 31.
     */
    private static int[] bytesOfRuns() {
        int[] bytes = new int[258];
        bytes[0] = 64;
        for (int run = 0; run < 64; run++) {
            bytes[1 + 3 * run] = 1;
            bytes[3 + 3 * run] = runColour(run);
        }
        for (int k = 0; k < 19; k++) {
            bytes[193 + 3 * k] = 1;
            bytes[194 + 3 * k] = 2 + k;
            bytes[195 + 3 * k] = 2 + k;
        }
        int[] solid = {0, 30, 0, 77, 0, 31, 0, 78};
        System.arraycopy(solid, 0, bytes, 250, 8);
        // the kind and the number of the second tile stand here in any case
        bytes[128] = 6;
        bytes[129] = 1;
        return bytes;
    }

    private static int runColour(int run) {
        return 1 + run % 40;
    }

    private static Screen startManyRuns() {
        Screen s = Spoil.start();
        int[] bytes = bytesOfRuns();
        for (int k = 0; k < 128; k++) {
            int at = k < 64 ? 2 * k : 2 * k + 2;
            s.fill(k / 64 * 8 + k % 8, k % 64 / 8, 1, 1, bytes[at] * 256 + bytes[at + 1]);
        }
        Spoil.compose(s);
        int[] line = Check.line(s, 0);
        Check.bytes("RAW twice", Arrays.copyOfRange(line, 4, 6), 6, 0);
        Check.bytes("RAW twice", Arrays.copyOfRange(line, 6, 264), bytes);
        return s;
    }

    private static void manyRuns() {
        Screen s = startManyRuns();
        Spoil.changeAndMend(s, 5, 5);
        Spoil.dueRight("64 runs", s);
        for (int run = 0; run < 64; run++) {
            int colour = run == 42 ? 6 * 256 + 1 : runColour(run);
            Check.due("run " + run, s.at(0, run % 8, run / 8), colour);
        }
        Check.due("tile 1", s.at(0, 8, 0), 0);
        Check.due("tile 30", s.at(0, 48, 24), 77);
        Check.due("tile 31", s.at(0, 63, 31), 78);
        s = startManyRuns();
        Spoil.changeAndMend(s, 5, 5, 7, 65);
        Spoil.dueWrong("65 runs", s);
        s = startManyRuns();
        Spoil.changeAndMend(s, 5, 5, 7, 63);
        Spoil.dueWrong("63 runs", s);
    }

    private static void beyondTheSum() {
        Screen s = startCopy();
        Spoil.changeAndMend(s, 5, 0);
        Spoil.dueWrong("SOLID that has one byte of the sum", s);
        s = Spoil.startSolid();
        Spoil.compose(s);
        Spoil.changeAndMend(s, 5, 6);
        Spoil.dueWrong("RAW in 4 bytes", s);
        s = Spoil.startSolid();
        Spoil.compose(s);
        Spoil.changeAndMend(s, 5, 1);
        Spoil.dueWrong("COPY and a byte that is a kind", s);
        s = startRuns();
        Spoil.changeAndMend(s, 5, 3);
        Spoil.dueWrong("MASK that has both bytes of the sum", s);
        s = startRuns();
        Spoil.changeAndMend(s, 7, 4, 14, 34);
        Spoil.dueWrong("a run beyond the sum", s);
    }

    /** A viewer with one record of a kind on its line. */
    private static Screen startKind(int kind) {
        if (kind == 1) {
            return startCopy();
        }
        if (kind == 2) {
            return startCached(1);
        }
        Screen s = Spoil.start();
        String[] pixels = {"a", "", "", "ab", "abc", "aaaaaaaabbbbbbbbccccccccddddddddeeeeeeeeffffffffgggggggghhhhhhhh",
            "abcdefghijklmnop"};
        Spoil.paint(s, 0, pixels[kind]);
        Spoil.compose(s);
        return s;
    }

    /** The last bytes of a record become the sum, a right one. */
    private static void cutBy(Screen s, int bytes) {
        int[] line = Check.line(s, 0);
        int told = line.length - 2 - bytes;
        int sum = 0;
        for (int k = 2; k < told; k++) {
            sum += line[k];
        }
        Spoil.change(s, 1, told >> 8, 2, told & 255, told + 1, sum >> 8 & 255, told + 2, sum & 255);
        s.credit(0, told + 2);
        Check.due("bytes of a shorter update", s.pump(0), told + 2);
    }

    private static void cutShort() {
        int[] lengths = {4, 3, 3, 14, 25, 27, 130};
        for (int kind = 0; kind < 7; kind++) {
            for (int bytes = 1; bytes <= lengths[kind]; bytes++) {
                Screen s = startKind(kind);
                int before = s.shown(0);
                Check.due("kind", s.onLine(0, 4), kind);
                Check.due("bytes", s.about(0, 2), 6 + lengths[kind]);
                cutBy(s, bytes);
                boolean whole = bytes == lengths[kind];
                String what = "kind " + kind + " without " + bytes + " bytes: ";
                Check.due(what + "connected", s.about(0, 0), whole ? 1 : 0);
                Check.due(what + "shown", s.shown(0), whole ? before + 1 : before);
                Check.due(what + "line", s.about(0, 2), whole ? bytes : 0);
            }
        }
    }

    private static void nothingOfAWrongUpdateIsShown() {
        Screen s = Spoil.start();
        s.fill(0, 0, 16, 8, 5);
        Spoil.compose(s);
        Spoil.changeAndMend(s, 10, 48);
        Spoil.dueWrong("second record", s);
        Check.due("the first one isn't shown", s.at(0, 0, 0), 0);
        s.join(0);
        Check.due("SENT is what is shown", s.about(0, 5), 2);
        s.credit(0, 100);
        Check.due("all again", s.pump(0), 15);
        Check.showsDrawn("after a break", s, 0);

        s = Spoil.start();
        s.fill(0, 0, 16, 8, 5);
        Spoil.compose(s);
        Spoil.changeAndMend(s, 6, 30, 10, 48);
        Spoil.dueWrong("second record, the first one at another tile", s);
        s.join(0);
        s.credit(0, 100);
        Check.due("all again", s.pump(0), 15);
        Check.showsDrawn("nothing is left of the wrong update", s, 0);
    }
}
