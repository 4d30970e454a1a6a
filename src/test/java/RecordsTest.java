import java.util.Arrays;

/** Updates, their records of all seven kinds, and promise 14. */
public final class RecordsTest {
    public static void main(String[] args) {
        noRecords();
        solid();
        copy();
        copyIsOfWhatWasSentBefore();
        copyBeforeCached();
        cached();
        cachedInOneUpdate();
        cacheHasOnlyWhatWasPutIn();
        cacheThatChangesInOneUpdate();
        mask();
        maskAgainstRuns();
        palette();
        paletteAgainstRuns();
        runs();
        runsAgainstRaw();
        raw();
        largestUpdate();
        placeGoesRound();
        manyDigitsOfTheLength();
        bytesByIsKept();
        bytesByRefused();
        Check.end();
    }

    /** One viewer, with a closed first frame. */
    private static Screen start() {
        Screen s = new Screen();
        s.join(0);
        return s;
    }

    /** Closes a frame, composes its update, looks at it, and lets the rest come. */
    private static int[] update(Screen s) {
        s.frame();
        s.credit(0, 1);
        Check.due("first byte", s.pump(0), 1);
        int[] rest = Check.line(s, 0);
        s.credit(0, rest.length);
        Check.due("rest", s.pump(0), rest.length);
        Check.due("still connected", s.about(0, 0), 1);
        Check.showsDrawn("whole update", s, 0);
        return rest;
    }

    /** Closes a frame; looks at the records of its update alone. */
    private static void records(String what, Screen s, int... want) {
        int[] rest = update(s);
        int told = want.length + 4;
        Check.due(what + ": length, middle byte", rest[0], told >> 8);
        Check.due(what + ": length, last byte", rest[1], told & 255);
        Check.due(what + ": number", rest[2] << 8 | rest[3], s.shown(0));
        Check.bytes(what, Arrays.copyOfRange(rest, 4, rest.length - 2), want);
        int sum = rest[2] + rest[3];
        for (int b : want) {
            sum += b;
        }
        Check.due(what + ": sum", rest[rest.length - 2] << 8 | rest[rest.length - 1], sum);
    }

    /** Paints pixels of tile 0 along its rows from a text of letters, a: colour 1. */
    private static void paint(Screen s, int tile, String pixels) {
        for (int k = 0; k < 64; k++) {
            int x = tile % 8 * 8 + k % 8;
            int y = tile / 8 * 8 + k / 8;
            s.fill(x, y, 1, 1, pixels.charAt(k % pixels.length()) - 'a' + 1);
        }
    }

    private static void due(Screen s, int... want) {
        for (int kind = 0; kind < 7; kind++) {
            Check.due("bytesBy " + kind, s.bytesBy(0, kind), want[kind]);
        }
    }

    private static void noRecords() {
        Screen s = start();
        records("nothing was drawn", s);
        s.fill(0, 0, 8, 8, 5);
        s.fill(0, 0, 8, 8, 0);
        records("drawn and drawn back", s);
        s.fill(0, 0, 64, 48, 5);
        s.frame();
        s.fill(0, 0, 64, 48, 0);
        records("a frame between was not sent", s);
    }

    private static void solid() {
        Screen s = start();
        s.fill(8, 0, 8, 8, 0xABCD);
        s.fill(56, 40, 8, 8, 255);
        records("SOLID", s, 0, 1, 0xAB, 0xCD, 0, 47, 0, 255);
        Check.due("SOLID isn't cached", s.about(0, 7), 0);
        due(s, 8, 0, 0, 0, 0, 0, 0);
    }

    private static void copy() {
        Screen s = start();
        s.fill(16, 0, 16, 8, 7);
        records("two of them", s, 0, 2, 0, 7, 0, 3, 0, 7);
        s.fill(0, 8, 8, 8, 7);
        s.fill(16, 0, 8, 8, 0);
        records("COPY of the least one, shorter than SOLID", s, 1, 2, 0, 1, 8, 2);
        Check.due("COPY isn't cached", s.about(0, 7), 0);
        due(s, 8, 6, 0, 0, 0, 0, 0);
    }

    private static void copyIsOfWhatWasSentBefore() {
        Screen s = start();
        paint(s, 0, "aabb");
        update(s);
        s.blit(0, 520, 8, 0);
        s.fill(0, 0, 8, 8, 9);
        records("COPY of a tile that changes in this update", s, 0, 0, 0, 9, 1, 1, 0);
        s.fill(0, 8, 8, 8, 5);
        s.fill(8, 8, 8, 8, 5);
        records("no COPY of what this update brings", s, 0, 8, 0, 5, 0, 9, 0, 5);
    }

    private static void copyBeforeCached() {
        Screen s = start();
        paint(s, 0, "aabb");
        update(s);
        s.blit(0, 520, 8, 0);
        records("COPY of as many bytes as CACHED", s, 1, 1, 0);
    }

    private static void cached() {
        Screen s = start();
        paint(s, 5, "aabb");
        update(s);
        paint(s, 5, "aacc");
        update(s);
        Check.due("two were put in", s.about(0, 7), 2);
        s.fill(0, 0, 64, 8, 0);
        update(s);
        paint(s, 40, "aacc");
        paint(s, 41, "aabb");
        records("CACHED", s, 2, 40, 1, 2, 41, 0);
        Check.due("CACHED isn't cached", s.about(0, 7), 2);
        due(s, 0, 3, 6, 28, 0, 0, 0);
    }

    private static void cachedInOneUpdate() {
        Screen s = start();
        paint(s, 0, "aabb");
        paint(s, 3, "aabb");
        records("CACHED of what this update put in", s,
            3, 0, 0, 1, 0, 2, 51, 51, 51, 51, 51, 51, 51, 51, 2, 3, 0);
    }

    /** The places of a cache that are empty hold no tile, not even one of colour 0. */
    private static void cacheHasOnlyWhatWasPutIn() {
        Screen s = start();
        s.fill(0, 0, 64, 48, 5);
        update(s);
        s.fill(16, 0, 8, 8, 0);
        records("nothing was put in", s, 0, 2, 0, 0);
        s.fill(16, 0, 8, 8, 5);
        dots(s, 1, 100);
        update(s);
        Check.due("place", s.about(0, 7), 1);
        s.fill(32, 0, 8, 8, 0);
        records("one was put in", s, 0, 4, 0, 0);
    }

    /** Two pixels on a ground of 5: MASK. */
    private static void dots(Screen s, int tile, int colour) {
        int x = tile % 8 * 8;
        int y = tile / 8 * 8;
        s.fill(x, y, 8, 8, 5);
        s.fill(x, y, 1, 1, colour);
        s.fill(x + 4, y + 4, 1, 1, colour);
    }

    private static int[] dotsRecord(int tile, int colour) {
        return new int[] {3, tile, 0, colour, 0, 5, 127, 255, 255, 255, 247, 255, 255, 255};
    }

    /** Entries 0 .. 15 have dots of colours 100 .. 115, and no tile of SENT has such. */
    private static Screen startWithFullCache() {
        Screen s = start();
        for (int k = 0; k < 16; k++) {
            dots(s, k, 100 + k);
        }
        update(s);
        Check.due("from 15 to 0", s.about(0, 7), 0);
        s.fill(0, 0, 64, 48, 5);
        update(s);
        return s;
    }

    private static void cacheThatChangesInOneUpdate() {
        Screen s = startWithFullCache();
        dots(s, 0, 99);
        dots(s, 1, 100);
        dots(s, 2, 102);
        int[] want = Arrays.copyOf(dotsRecord(0, 99), 31);
        System.arraycopy(dotsRecord(1, 100), 0, want, 14, 14);
        want[28] = 2;
        want[29] = 2;
        want[30] = 2;
        records("an entry that was replaced before it was wanted", s, want);
        s = startWithFullCache();
        dots(s, 0, 100);
        dots(s, 1, 99);
        dots(s, 2, 99);
        int[] other = new int[20];
        other[0] = 2;
        System.arraycopy(dotsRecord(1, 99), 0, other, 3, 14);
        other[17] = 2;
        other[18] = 2;
        records("an entry that is wanted before it is replaced", s, other);
        Check.due("one was put in", s.about(0, 7), 1);
        s = startWithFullCache();
        dots(s, 47, 115);
        records("the last entry", s, 2, 47, 15);
    }

    private static void mask() {
        Screen s = start();
        paint(s, 9, "zaaazaaazaaaaaaaz");
        int[] want = new int[14];
        want[0] = 3;
        want[1] = 9;
        want[3] = 26;
        want[5] = 1;
        for (int k = 0; k < 64; k++) {
            if ("zaaazaaazaaaaaaaz".charAt(k % 17) == 'a') {
                want[6 + k / 8] |= 128 >> k % 8;
            }
        }
        records("MASK", s, want);
        Check.due("MASK is cached", s.about(0, 7), 1);
    }

    private static void maskAgainstRuns() {
        Screen s = start();
        s.fill(0, 0, 8, 8, 1);
        s.fill(3, 3, 2, 1, 2);
        records("three runs are shorter than MASK", s, 5, 0, 3, 27, 0, 1, 2, 0, 2, 35, 0, 1);
        Check.due("RUNS is cached", s.about(0, 7), 1);
        s.fill(0, 7, 8, 1, 2);
        records("MASK is shorter than four runs", s, 3, 0, 0, 1, 0, 2, 0, 0, 0, 24, 0, 0, 0, 255);
        due(s, 0, 0, 0, 14, 0, 12, 0);
    }

    private static void palette() {
        Screen s = start();
        paint(s, 0, "cab");
        int[] want = new int[25];
        want[0] = 4;
        want[2] = 3;
        want[4] = 3;
        want[6] = 1;
        want[8] = 2;
        for (int k = 0; k < 64; k++) {
            want[9 + k / 4] |= k % 3 << 6 - 2 * (k % 4);
        }
        records("PALETTE of three", s, want);
        Check.due("PALETTE is cached", s.about(0, 7), 1);
        paint(s, 0, "dcab");
        int[] four = new int[27];
        four[0] = 4;
        four[2] = 4;
        four[4] = 4;
        four[6] = 3;
        four[8] = 1;
        four[10] = 2;
        Arrays.fill(four, 11, 27, 27);
        records("PALETTE of four", s, four);
        Check.due("PALETTE is cached", s.about(0, 7), 2);
        due(s, 0, 0, 0, 0, 52, 0, 0);
    }

    private static void paletteAgainstRuns() {
        Screen s = start();
        paint(s, 0, "aaaaaaaabbbbbbbbccccccccddddddddaaaaaaaabbbbbbbbccccccccdddddddd");
        update(s);
        due(s, 0, 0, 0, 0, 27, 0, 0);
        paint(s, 0, "aaaaaaaabbbbbbbbccccccccddddddddaaaaaaaabbbbbbbbcccccccccccccccc");
        update(s);
        due(s, 0, 0, 0, 0, 27, 24, 0);
        paint(s, 0, "aaaaaaaabbbbbbbbccccccccbbbbbbbbaaaaaaaabbbbbbbbcccccccccccccccc");
        update(s);
        due(s, 0, 0, 0, 0, 27, 48, 0);
        paint(s, 0, "aaaaaaaabbbbbbbbccccccccbbbbbbbbaaaaaaaabbbbbbbbccccccccbbbbbbbb");
        update(s);
        due(s, 0, 0, 0, 0, 52, 48, 0);
    }

    private static void runs() {
        Screen s = start();
        paint(s, 0, "aaaaaaaaaaaaaaaabbbbbbbbbbbbbbbbccccccccccccccccddddddddddddddde");
        records("RUNS of five colours", s,
            5, 0, 5, 16, 0, 1, 16, 0, 2, 16, 0, 3, 15, 0, 4, 1, 0, 5);
        paint(s, 0, "abcdeabcdeabcdeabcdeabcdeabcdeabcdeabcdeeeeeeeeeeeeeeeeeeeeeeeee");
        update(s);
        Check.due("forty runs of five colours", s.bytesBy(0, 5), 18 + 3 + 120);
    }

    private static void runsAgainstRaw() {
        Screen s = start();
        StringBuilder pixels = new StringBuilder();
        for (int k = 0; k < 64; k++) {
            pixels.append((char) ('a' + Math.min(k, 41) % 5));
        }
        paint(s, 0, pixels.toString());
        update(s);
        due(s, 0, 0, 0, 0, 0, 129, 0);
        pixels.setCharAt(63, 'z');
        paint(s, 0, pixels.toString());
        update(s);
        due(s, 0, 0, 0, 0, 0, 129, 130);
        Check.due("both are cached", s.about(0, 7), 2);
    }

    private static void raw() {
        Screen s = start();
        int[] want = new int[130];
        want[0] = 6;
        want[1] = 20;
        for (int row = 0; row < 8; row++) {
            s.shade(20, row, 3000 * row + 1, 257);
            for (int k = 0; k < 8; k++) {
                int colour = 3000 * row + 1 + 257 * k;
                want[2 + 16 * row + 2 * k] = colour >> 8;
                want[3 + 16 * row + 2 * k] = colour & 255;
            }
        }
        records("RAW", s, want);
        Check.due("RAW is cached", s.about(0, 7), 1);
    }

    private static void shadeAll(Screen s, int start) {
        for (int tile = 0; tile < 48; tile++) {
            for (int row = 0; row < 8; row++) {
                s.shade(tile, row, start + 64 * tile + 8 * row, 1);
            }
        }
    }

    private static void largestUpdate() {
        Screen s = start();
        shadeAll(s, 60000);
        int[] rest = update(s);
        Check.due("all tiles RAW", rest.length, 6246);
        Check.due("length", rest[0] << 8 | rest[1], 6244);
        int sum = 0;
        for (int k = 2; k < rest.length - 2; k++) {
            sum += rest[k];
        }
        Check.yes("a sum above 65535", sum > 65535);
        Check.due("the sum is modulo 65536", rest[rest.length - 2] << 8 | rest[rest.length - 1], sum % 65536);
        Check.due("48 tiles went three times round the cache", s.about(0, 7), 0);
        due(s, 0, 0, 0, 0, 0, 0, 6240);
    }

    private static void placeGoesRound() {
        Screen s = start();
        for (int k = 0; k < 17; k++) {
            s.fill(0, 0, 8, 8, 0);
            s.fill(0, 0, 1, 1, 100 + k);
            s.fill(4, 4, 1, 1, 100 + k);
            update(s);
            Check.due("place after " + (k + 1), s.about(0, 7), (k + 1) % 16);
        }
        Check.due("all of them MASK", s.bytesBy(0, 3), 17 * 14);
        s.fill(0, 0, 1, 1, 101);
        s.fill(4, 4, 1, 1, 101);
        records("the second one is there", s, 2, 0, 1);
        s.fill(0, 0, 1, 1, 116);
        s.fill(4, 4, 1, 1, 116);
        records("the last one took the first place", s, 2, 0, 0);
        s.fill(0, 0, 1, 1, 100);
        s.fill(4, 4, 1, 1, 100);
        update(s);
        Check.due("the first one is there no more", s.bytesBy(0, 3), 18 * 14);
    }

    private static void manyDigitsOfTheLength() {
        Screen s = start();
        for (int k = 1; k < 300; k++) {
            s.frame();
        }
        s.fill(0, 0, 64, 48, 5);
        s.credit(0, 1);
        s.frame();
        s.pump(0);
        int[] rest = Check.line(s, 0);
        Check.bytes("length 196 and number 300", Arrays.copyOf(rest, 4), 0, 196, 1, 44);
        s.credit(0, 1000);
        Check.due("pump", s.pump(0), 198);
        Check.due("shown", s.shown(0), 300);
    }

    private static void bytesByIsKept() {
        Screen s = start();
        s.fill(0, 0, 8, 8, 5);
        s.frame();
        s.credit(0, 1);
        s.pump(0);
        Check.due("counted when composed", s.bytesBy(0, 0), 4);
        s.cut(0);
        Check.due("kept when cut", s.bytesBy(0, 0), 4);
        s.join(0);
        Check.due("kept when joined", s.bytesBy(0, 0), 4);
        s.credit(0, 100);
        s.pump(0);
        Check.due("composed once more", s.bytesBy(0, 0), 8);
    }

    private static void bytesByRefused() {
        Screen s = start();
        for (int v : new int[] {-1, 3, Integer.MAX_VALUE, Integer.MIN_VALUE}) {
            Check.due("bytesBy of no viewer", s.bytesBy(v, 0), -1);
        }
        for (int kind : new int[] {-1, 7, Integer.MAX_VALUE, Integer.MIN_VALUE}) {
            Check.due("bytesBy of no kind", s.bytesBy(0, kind), -1);
        }
    }
}
