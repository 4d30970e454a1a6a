/** Promise 10, and what a viewer does with bytes that were spoilt. */
public final class SpoiltTest {
    private static final int MAX = Integer.MAX_VALUE;
    private static final int MIN = Integer.MIN_VALUE;

    public static void main(String[] args) {
        poison();
        poisonRefused();
        poisonsCountForThemselves();
        poisonsOnOneByte();
        poisonsOutliveABreak();
        atMostEightWait();
        lengths();
        shorterUpdate();
        longerUpdate();
        wrongSum();
        wrongKind();
        wrongTile();
        wrongCopy();
        wrongEntry();
        wrongPalette();
        wrongRuns();
        beyondTheSum();
        nothingOfAWrongUpdateIsShown();
        numbers();
        joinTellsWhatIsShown();
        ownCopiesAndCache();
        Check.end();
    }

    /** A viewer that has one more frame on its line: all but the first byte, a zero. */
    private static TileScreen start() {
        TileScreen s = new TileScreen();
        s.join(0);
        return s;
    }

    private static void compose(TileScreen s) {
        s.frame();
        s.credit(0, 1);
        Check.due("first byte", s.pump(0), 1);
    }

    /** Spoils bytes of the update whose first byte has gone: pairs of place and new value. */
    private static void change(TileScreen s, int... pairs) {
        for (int k = 0; k < pairs.length; k += 2) {
            int old = s.onLine(0, pairs[k] - 1);
            Check.yes("poison", s.poison(0, pairs[k], old ^ pairs[k + 1]));
        }
    }

    /** Spoils bytes of records and makes the sum right again. */
    private static void changeAndMend(TileScreen s, int... pairs) {
        int[] bytes = Check.line(s, 0);
        change(s, pairs);
        for (int k = 0; k < pairs.length; k += 2) {
            bytes[pairs[k] - 1] = pairs[k + 1];
        }
        int sum = 0;
        for (int k = 2; k < bytes.length - 2; k++) {
            sum += bytes[k];
        }
        change(s, bytes.length - 1, sum >> 8 & 255, bytes.length, sum & 255);
    }

    private static void sendRest(TileScreen s) {
        int rest = s.about(0, 2);
        s.credit(0, rest);
        Check.due("rest", s.pump(0), rest);
    }

    private static void dueWrong(String what, TileScreen s) {
        int before = s.shown(0);
        sendRest(s);
        Check.due(what + ": connected", s.about(0, 0), 0);
        Check.due(what + ": shown", s.shown(0), before);
        Check.due(what + ": came", s.about(0, 3), 0);
    }

    private static void dueRight(String what, TileScreen s) {
        int before = s.shown(0);
        sendRest(s);
        Check.due(what + ": connected", s.about(0, 0), 1);
        Check.due(what + ": shown", s.shown(0), before + 1);
        Check.due(what + ": came", s.about(0, 3), 0);
    }

    private static void paint(TileScreen s, int tile, String pixels) {
        for (int k = 0; k < 64; k++) {
            s.fill(tile % 8 * 8 + k % 8, tile / 8 * 8 + k / 8, 1, 1, pixels.charAt(k % pixels.length()) - 'a' + 1);
        }
    }

    /** An update of 11 bytes: 0 0 8, 0 1, 0 0 0 5, 0 6. */
    private static TileScreen startSolid() {
        TileScreen s = start();
        s.fill(0, 0, 8, 8, 5);
        return s;
    }

    private static void poison() {
        TileScreen s = startSolid();
        Check.yes("poison of the colour", s.poison(0, 9, 2 + 256));
        Check.yes("poison of the sum", s.poison(0, 11, 14 - 1024));
        s.frame();
        s.credit(0, 20);
        Check.due("pump", s.pump(0), 11);
        Check.due("connected", s.about(0, 0), 1);
        Check.due("shown", s.shown(0), 1);
        Check.due("5 xor 2", s.at(0, 0, 0), 7);
        s.fill(0, 0, 8, 8, 6);
        s.frame();
        Check.due("pump", s.pump(0), 9);
        Check.due("nothing waits any more", s.onLine(0, 0), 0);
        s.credit(0, 2);
        s.pump(0);
        Check.due("as drawn", s.at(0, 0, 0), 6);
    }

    private static void poisonRefused() {
        TileScreen s = start();
        for (int v : new int[] {-1, 3, MAX, MIN}) {
            Check.no("poison of no viewer", s.poison(v, 1, 1));
        }
        for (int n : new int[] {0, -1, 10001, MAX, MIN}) {
            Check.no("poison at " + n, s.poison(0, n, 1));
        }
        Check.yes("poison of one that isn't connected", s.poison(1, 1, 1));
        Check.yes("poison at the last place", s.poison(0, 10000, 1));
        for (int k = 0; k < 8; k++) {
            Check.no("refused ones don't wait", s.poison(0, 0, 1));
        }
        s.fill(0, 0, 8, 8, 5);
        s.frame();
        s.credit(0, 100);
        Check.due("pump", s.pump(0), 11);
        Check.due("not spoilt", s.at(0, 0, 0), 5);
        s.join(1);
        s.credit(1, 100);
        Check.due("spoilt at the first byte", s.pump(1), 3);
    }

    private static void poisonsCountForThemselves() {
        TileScreen s = startSolid();
        s.poison(0, 11, 14);
        s.poison(0, 9, 2);
        s.frame();
        s.credit(0, 4);
        s.pump(0);
        Check.bytes("the line is not spoilt", Check.line(s, 0), 1, 0, 0, 0, 5, 0, 6);
        s.credit(0, 7);
        s.pump(0);
        Check.due("both were spoilt", s.at(0, 0, 0), 7);
        Check.due("connected", s.about(0, 0), 1);
    }

    private static void poisonsOnOneByte() {
        TileScreen s = startSolid();
        s.poison(0, 9, 3);
        s.poison(0, 9, 1);
        s.poison(0, 11, 14);
        s.frame();
        s.credit(0, 100);
        s.pump(0);
        Check.due("5 xor 3 xor 1", s.at(0, 0, 0), 7);
    }

    private static void poisonsOutliveABreak() {
        TileScreen s = startSolid();
        s.poison(0, 1, 1);
        s.poison(0, 3 + 9, 2);
        s.poison(0, 3 + 11, 14);
        s.frame();
        s.credit(0, 100);
        Check.due("length 65544", s.pump(0), 3);
        Check.due("connected", s.about(0, 0), 0);
        Check.due("line", s.about(0, 2), 0);
        Check.due("credit", s.about(0, 1), 0);
        s.join(0);
        s.credit(0, 100);
        Check.due("pump", s.pump(0), 11);
        Check.due("5 xor 2", s.at(0, 0, 0), 7);
    }

    private static void letWait(TileScreen s, int times) {
        for (int k = 0; k < times; k++) {
            s.poison(0, 10000, 0);
        }
    }

    private static void atMostEightWait() {
        TileScreen s = startSolid();
        s.poison(0, 9, 2);
        letWait(s, 7);
        Check.yes("a ninth one", s.poison(0, 11, 14));
        s.frame();
        s.credit(0, 100);
        s.pump(0);
        Check.due("the first one stayed, the ninth one came in", s.at(0, 0, 0), 7);

        s = startSolid();
        letWait(s, 7);
        s.poison(0, 9, 2);
        s.poison(0, 10000, 0);
        s.frame();
        s.credit(0, 100);
        s.pump(0);
        Check.due("the eighth one was replaced", s.at(0, 0, 0), 5);

        s = startSolid();
        letWait(s, 6);
        s.poison(0, 1, 0);
        s.poison(0, 10000, 0);
        compose(s);
        s.poison(0, 8, 2);
        s.poison(0, 2, 1);
        s.poison(0, 10, 14);
        s.credit(0, 100);
        s.pump(0);
        Check.due("one was done, so there was room for the 9th", s.about(0, 0), 0);
        s = startSolid();
        letWait(s, 5);
        s.poison(0, 1, 0);
        s.poison(0, 10000, 0);
        compose(s);
        s.poison(0, 8, 2);
        s.poison(0, 2, 1);
        s.poison(0, 10, 14);
        s.credit(0, 100);
        s.pump(0);
        Check.due("room for two: the last one took the second one's place", s.at(0, 0, 0), 7);
    }

    private static void breaksAtLength(int high, int low) {
        TileScreen s = startSolid();
        compose(s);
        change(s, 1, high, 2, low);
        s.credit(0, 100);
        Check.due("length " + high + " " + low + ": pump", s.pump(0), 2);
        Check.due("length " + high + " " + low + ": connected", s.about(0, 0), 0);
        Check.due("length " + high + " " + low + ": line", s.about(0, 2), 0);
        Check.due("length " + high + " " + low + ": came", s.about(0, 3), 0);
        Check.due("length " + high + " " + low + ": credit", s.about(0, 1), 0);
    }

    private static void lengths() {
        breaksAtLength(0, 0);
        breaksAtLength(0, 3);
        breaksAtLength(0x18, 0x65);
        breaksAtLength(255, 255);
        TileScreen s = startSolid();
        compose(s);
        change(s, 1, 0x18, 2, 0x64);
        s.credit(0, 100);
        Check.due("length 6244", s.pump(0), 10);
        Check.due("length 6244 may be", s.about(0, 0), 1);
        Check.due("bytes that came", s.about(0, 3), 11);
        Check.due("not shown", s.shown(0), 0);
        int came = 11;
        for (int k = 0; came < 6247 && k < 400; k++) {
            s.fill(0, 0, 64, 48, 1000 + k);
            s.frame();
            s.credit(0, Math.min(199, 6247 - came));
            came += s.pump(0);
        }
        Check.due("as many as were told", came, 6247);
        Check.due("then the sum is wrong", s.about(0, 0), 0);
    }

    private static void shorterUpdate() {
        TileScreen s = startSolid();
        compose(s);
        change(s, 2, 4, 6, 1);
        sendRest(s);
        Check.due("told 4: connected", s.about(0, 0), 1);
        Check.due("told 4: shown", s.shown(0), 1);
        Check.due("told 4: nothing drawn", s.at(0, 0, 0), 0);
        Check.due("told 4: the rest is of the next update", s.about(0, 3), 4);
    }

    private static void longerUpdate() {
        TileScreen s = startSolid();
        compose(s);
        s.poison(0, 2, 8 ^ 15);
        s.poison(0, 13, 4 ^ 1);
        s.poison(0, 17, 2 ^ 15);
        s.frame();
        s.credit(0, 100);
        Check.due("two updates, read as one", s.pump(0), 17);
        Check.due("connected", s.about(0, 0), 1);
        Check.due("shown", s.shown(0), 1);
        Check.due("SENT frame", s.about(0, 6), 2);
        Check.due("a later record of a tile wins", s.at(0, 0, 0), 0);
    }

    private static void wrongSum() {
        TileScreen s = startSolid();
        compose(s);
        change(s, 10, 7);
        dueWrong("sum, low byte", s);
        Check.due("not shown", s.at(0, 0, 0), 0);
        s = startSolid();
        compose(s);
        change(s, 9, 1);
        dueWrong("sum, high byte", s);
        s = startSolid();
        compose(s);
        change(s, 3, 1);
        dueWrong("the number is in the sum", s);
        s = startSolid();
        compose(s);
        change(s, 7, 1, 8, 4);
        dueRight("changes that keep the sum", s);
        Check.due("are shown", s.at(0, 0, 0), 260);
    }

    private static void wrongKind() {
        for (int kind : new int[] {7, 8, 128, 255}) {
            TileScreen s = startSolid();
            compose(s);
            changeAndMend(s, 5, kind);
            dueWrong("kind " + kind, s);
            s = start();
            s.fill(0, 0, 16, 8, 5);
            compose(s);
            changeAndMend(s, 5, kind, 7, 1);
            dueWrong("kind " + kind + ", then COPY twice", s);
        }
    }

    private static void wrongTile() {
        TileScreen s = startSolid();
        compose(s);
        changeAndMend(s, 6, 47);
        dueRight("tile 47", s);
        Check.due("tile 47", s.at(0, 63, 47), 5);
        Check.due("tile 0", s.at(0, 0, 0), 0);
        for (int tile : new int[] {48, 255}) {
            s = startSolid();
            compose(s);
            changeAndMend(s, 6, tile);
            dueWrong("tile " + tile, s);
            s = start();
            s.fill(0, 0, 16, 8, 5);
            compose(s);
            changeAndMend(s, 6, tile, 7, 1);
            dueWrong("tile " + tile + ", then COPY twice", s);
        }
    }

    /** An update with COPY alone: 1 8 2. */
    private static TileScreen startCopy() {
        TileScreen s = start();
        s.fill(16, 0, 8, 8, 7);
        compose(s);
        sendRest(s);
        s.blit(16, 520, 0, 8);
        compose(s);
        Check.bytes("COPY", Check.line(s, 0), 0, 7, 0, 2, 1, 8, 2, 0, 13);
        return s;
    }

    private static void wrongCopy() {
        TileScreen s = startCopy();
        changeAndMend(s, 7, 47);
        dueRight("COPY of 47", s);
        Check.due("COPY of 47", s.at(0, 0, 8), 0);
        for (int tile : new int[] {48, 255}) {
            s = startCopy();
            changeAndMend(s, 7, tile);
            dueWrong("COPY of " + tile, s);
        }
    }

    private static void dots(TileScreen s, int colour) {
        s.fill(0, 0, 8, 8, 0);
        s.fill(0, 0, 1, 1, colour);
        s.fill(4, 4, 1, 1, colour);
    }

    /** An update with CACHED 0 alone, of so many that were put in. */
    private static TileScreen startCached(int many) {
        TileScreen s = start();
        for (int k = 0; k < many; k++) {
            dots(s, 101 + k);
            compose(s);
            sendRest(s);
        }
        s.fill(0, 0, 8, 8, 0);
        compose(s);
        sendRest(s);
        dots(s, 101);
        compose(s);
        Check.due("CACHED", s.onLine(0, 4), 2);
        Check.due("CACHED at 0", s.onLine(0, 6), 0);
        return s;
    }

    private static void wrongEntry() {
        TileScreen s = startCached(1);
        changeAndMend(s, 7, 1);
        dueWrong("entry that wasn't put in", s);
        s = startCached(2);
        changeAndMend(s, 7, 1);
        dueRight("entry that was put in", s);
        Check.due("entry 1", s.at(0, 0, 0), 102);
        s = startCached(16);
        changeAndMend(s, 7, 15);
        dueRight("entry 15", s);
        Check.due("entry 15", s.at(0, 0, 0), 116);
        for (int entry : new int[] {16, 255}) {
            s = startCached(16);
            changeAndMend(s, 7, entry);
            dueWrong("entry " + entry, s);
        }
    }

    /** PALETTE of three colours at tile 0, SOLID at tile 1, which a wrong count would eat. */
    private static TileScreen startPalette() {
        TileScreen s = start();
        paint(s, 0, "babababaaaaaaaaaaaaaaaaaaaaaaaaaaaaaaaaaaaaaaaaaaaaaaaaabbbabbba");
        s.fill(7, 7, 1, 1, 256);
        s.fill(8, 0, 8, 8, 5);
        compose(s);
        Check.due("PALETTE", s.onLine(0, 4), 4);
        Check.due("of three", s.onLine(0, 6), 3);
        Check.due("bytes", s.about(0, 2), 2 + 2 + 25 + 4 + 2);
        Check.due("last but one byte of the pixels", s.onLine(0, 27), 1);
        Check.due("last byte of the pixels", s.onLine(0, 28), 2);
        return s;
    }

    private static void wrongPalette() {
        for (int count : new int[] {0, 1, 2, 5, 255}) {
            TileScreen s = startPalette();
            changeAndMend(s, 7, count);
            dueWrong("PALETTE of " + count, s);
        }
        TileScreen s = startPalette();
        changeAndMend(s, 29, 128);
        dueRight("pixels of the three colours", s);
        Check.due("third colour", s.at(0, 4, 7), 256);
        Check.due("first colour", s.at(0, 7, 7), 2);
        s = startPalette();
        changeAndMend(s, 29, 3);
        dueWrong("last pixel of a fourth colour", s);
        s = startPalette();
        changeAndMend(s, 14, 192);
        dueWrong("first pixel of a fourth colour", s);
    }

    /** RUNS of three at tile 0: 5 0 3, 27 0 1, 2 0 2, 35 0 1. */
    private static TileScreen startRuns() {
        TileScreen s = start();
        s.fill(0, 0, 8, 8, 1);
        s.fill(3, 3, 2, 1, 2);
        compose(s);
        Check.due("RUNS", s.onLine(0, 4), 5);
        return s;
    }

    private static void wrongRuns() {
        TileScreen s = startRuns();
        changeAndMend(s, 8, 1, 11, 62, 14, 1);
        dueRight("runs of 64 in all", s);
        Check.due("first", s.at(0, 0, 0), 1);
        Check.due("second", s.at(0, 1, 0), 2);
        Check.due("last but one", s.at(0, 6, 7), 2);
        Check.due("last", s.at(0, 7, 7), 1);
        int[][] wrong = {{26, 2, 35}, {28, 2, 35}, {27, 37, 35}, {29, 0, 35}, {0, 29, 35}, {29, 35, 0}, {255, 2, 35}};
        for (int[] w : wrong) {
            s = startRuns();
            changeAndMend(s, 8, w[0], 11, w[1], 14, w[2]);
            dueWrong("runs " + java.util.Arrays.toString(w), s);
        }
        s = startRuns();
        changeAndMend(s, 6, 47, 11, 37);
        dueWrong("runs that would leave the picture", s);
        s = startRuns();
        changeAndMend(s, 7, 0, 8, 1, 11, 1, 14, 1);
        dueWrong("no runs, then COPY three times", s);
        s = startRuns();
        changeAndMend(s, 7, 2, 8, 62, 14, 1);
        dueRight("two runs, then COPY", s);
    }

    private static void beyondTheSum() {
        TileScreen s = startCopy();
        changeAndMend(s, 5, 0);
        dueWrong("SOLID that has one byte of the sum", s);
        s = startSolid();
        compose(s);
        changeAndMend(s, 5, 6);
        dueWrong("RAW in 4 bytes", s);
        s = startSolid();
        compose(s);
        changeAndMend(s, 5, 1);
        dueWrong("COPY and a byte that is a kind", s);
        s = startRuns();
        changeAndMend(s, 5, 3);
        dueWrong("MASK that has both bytes of the sum", s);
        s = startRuns();
        changeAndMend(s, 7, 4, 14, 34);
        dueWrong("a run beyond the sum", s);
    }

    private static void nothingOfAWrongUpdateIsShown() {
        TileScreen s = start();
        s.fill(0, 0, 16, 8, 5);
        compose(s);
        changeAndMend(s, 10, 48);
        dueWrong("second record", s);
        Check.due("the first one isn't shown", s.at(0, 0, 0), 0);
        s.join(0);
        Check.due("SENT is what is shown", s.about(0, 5), 2);
        s.credit(0, 100);
        Check.due("all again", s.pump(0), 15);
        Check.showsDrawn("after a break", s, 0);

        s = start();
        s.fill(0, 0, 16, 8, 5);
        compose(s);
        changeAndMend(s, 6, 30, 10, 48);
        dueWrong("second record, the first one at another tile", s);
        s.join(0);
        s.credit(0, 100);
        Check.due("all again", s.pump(0), 15);
        Check.showsDrawn("nothing is left of the wrong update", s, 0);
    }

    private static void numbers() {
        TileScreen s = startSolid();
        compose(s);
        changeAndMend(s, 4, 0);
        sendRest(s);
        Check.due("0 above 0", s.shown(0), 65536);
        Check.due("SENT frame", s.about(0, 6), 1);
        compose(s);
        sendRest(s);
        Check.due("2 above 65536", s.shown(0), 65538);
        compose(s);
        changeAndMend(s, 4, 2);
        sendRest(s);
        Check.due("2 above 65538", s.shown(0), 131074);
        compose(s);
        changeAndMend(s, 4, 1);
        sendRest(s);
        Check.due("1 above 131074", s.shown(0), 196609);
        s = startSolid();
        compose(s);
        changeAndMend(s, 3, 255, 4, 255);
        sendRest(s);
        Check.due("65535 above 0", s.shown(0), 65535);
    }

    private static void joinTellsWhatIsShown() {
        TileScreen s = startSolid();
        compose(s);
        changeAndMend(s, 4, 0, 8, 7);
        sendRest(s);
        s.cut(0);
        Check.due("SENT frame before", s.about(0, 6), 1);
        Check.due("SENT before", s.about(0, 5), 0);
        s.join(0);
        Check.due("SENT frame", s.about(0, 6), 65536);
        Check.due("SENT", s.about(0, 5), 1);
        s.credit(0, 100);
        Check.due("pump", s.pump(0), 11);
        Check.due("shown", s.shown(0), 65537);
        Check.due("mended", s.at(0, 0, 0), 5);
        s.cut(0);
        s.join(0);
        s.credit(0, 100);
        Check.due("frame 65537 isn't the closed one", s.pump(0), 7);
        s = startSolid();
        compose(s);
        changeAndMend(s, 4, 2);
        sendRest(s);
        s.cut(0);
        s.fill(0, 0, 8, 8, 6);
        s.frame();
        s.join(0);
        s.credit(0, 100);
        Check.due("frame 2 is the closed one", s.pump(0), 0);
        Check.due("though it differs", s.about(0, 5), 1);
    }

    private static void ownCopiesAndCache() {
        TileScreen s = start();
        s.fill(16, 0, 8, 8, 5);
        compose(s);
        changeAndMend(s, 8, 7);
        dueRight("spoilt colour", s);
        s.blit(16, 520, 0, 8);
        compose(s);
        dueRight("COPY", s);
        Check.due("COPY of the viewer's own tile", s.at(0, 0, 8), 7);

        s = start();
        dots(s, 101);
        compose(s);
        changeAndMend(s, 8, 102);
        dueRight("spoilt MASK", s);
        s.fill(0, 0, 8, 8, 0);
        compose(s);
        dueRight("COPY", s);
        Check.due("COPY", s.at(0, 0, 0), 0);
        dots(s, 101);
        compose(s);
        Check.due("CACHED", s.onLine(0, 4), 2);
        dueRight("CACHED", s);
        Check.due("CACHED in the viewer's own cache", s.at(0, 0, 0), 102);
    }
}
