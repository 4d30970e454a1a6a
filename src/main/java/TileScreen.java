/**
 * A screen that is drawn at a server and shown by viewers: changed tiles go as records of
 * the shortest kind, byte by byte, over lines that may break or be spoilt.
 *
 * <p>All rows are made when the object is made and used again, so that no call makes any.
 */
public final class TileScreen {
    public static final int NONE = -1;

    private static final int WIDTH = 64;
    private static final int HEIGHT = 48;
    private static final int SIDE = 8;
    private static final int TILES_ACROSS = 8;
    private static final int TILES = 48;
    private static final int TILE_PIXELS = 64;
    private static final int MODULUS = 65536;
    private static final int VIEWERS = 3;
    private static final int CACHE_TILES = 16;
    private static final int CREDIT_MOST = 1000000;
    private static final int POISONS_MOST = 8;
    private static final int POISON_FARTHEST = 10000;

    private static final int SOLID = 0;
    private static final int COPY = 1;
    private static final int CACHED = 2;
    private static final int MASK = 3;
    private static final int PALETTE = 4;
    private static final int RUNS = 5;
    private static final int RAW = 6;
    private static final int KINDS = 7;
    private static final int PALETTE_LEAST = 3;
    private static final int PALETTE_MOST = 4;

    private static final int LENGTH_BYTES = 3;
    private static final int NUMBER_BYTES = 2;
    private static final int SUM_BYTES = 2;
    private static final int TOLD_LEAST = 4;
    private static final int TOLD_MOST = 6244;
    private static final int UPDATE_MOST = LENGTH_BYTES + TOLD_MOST;

    private final Tiles drawn;
    private final Tiles closed;
    /** What is drawn, as it was before a blit that may overlap itself. */
    private final Tiles copy;
    private final Viewer[] viewers;
    private int number;

    public TileScreen() {
        drawn = new Tiles(TILES);
        closed = new Tiles(TILES);
        copy = new Tiles(TILES);
        viewers = new Viewer[VIEWERS];
        for (int v = 0; v < VIEWERS; v++) {
            viewers[v] = new Viewer();
        }
        number = 0;
    }

    public boolean fill(int x, int y, int w, int h, int colour) {
        if (!isInside(x, y, w, h) || !isColour(colour)) {
            return false;
        }
        for (int row = y; row < y + h; row++) {
            for (int column = x; column < x + w; column++) {
                drawn.set(tileOf(column, row), pixelOf(column, row), colour);
            }
        }
        return true;
    }

    public boolean blit(int place, int size, int x, int y) {
        if (place < 0 || size < 1) {
            return false;
        }
        int fromX = place % WIDTH;
        int fromY = place / WIDTH;
        // a width of 64 is told as 64 and not as 0, so the width is one of 1 .. 64
        int w = (size - 1) % WIDTH + 1;
        int h = (size - 1) / WIDTH;
        if (!isInside(fromX, fromY, w, h) || !isInside(x, y, w, h)) {
            return false;
        }
        copy.takeAll(drawn);
        for (int row = 0; row < h; row++) {
            for (int column = 0; column < w; column++) {
                int colour = pixelAt(copy, fromX + column, fromY + row);
                drawn.set(tileOf(x + column, y + row), pixelOf(x + column, y + row), colour);
            }
        }
        return true;
    }

    public boolean shade(int tile, int row, int colour, int step) {
        if (tile < 0 || tile >= TILES || row < 0 || row >= SIDE || !isColour(colour)) {
            return false;
        }
        for (int k = 0; k < SIDE; k++) {
            // int overflow is harmless: 65536 divides the range of an int
            drawn.set(tile, row * SIDE + k, (colour + k * step) & (MODULUS - 1));
        }
        return true;
    }

    public int frame() {
        closed.takeAll(drawn);
        number++;
        return number;
    }

    public boolean join(int v) {
        if (!isViewer(v) || viewers[v].connected) {
            return false;
        }
        viewers[v].connect();
        return true;
    }

    public boolean cut(int v) {
        if (!isViewer(v) || !viewers[v].connected) {
            return false;
        }
        viewers[v].disconnect();
        return true;
    }

    public int credit(int v, int n) throws IllegalArgumentException, IllegalStateException {
        if (!isViewer(v) || n < 1 || n > CREDIT_MOST) {
            throw new IllegalArgumentException("no such viewer or number of bytes");
        }
        Viewer viewer = viewers[v];
        if (!viewer.connected || viewer.credit + n > CREDIT_MOST) {
            throw new IllegalStateException("not connected, or too much credit");
        }
        viewer.credit += n;
        return viewer.credit;
    }

    public int pump(int v) {
        if (!isViewer(v)) {
            return NONE;
        }
        Viewer viewer = viewers[v];
        Feed feed = viewer.feed;
        int most = viewer.credit;
        int moved = 0;
        while (moved < most && viewer.connected) {
            if (feed.line.size == 0 && feed.sentNumber != number) {
                feed.compose(closed, number);
            }
            if (feed.line.size == 0) {
                break;
            }
            viewer.credit--;
            moved++;
            if (!viewer.display.receive(viewer.poisons.spoil(feed.line.removeFirst()))) {
                viewer.disconnect();
            }
        }
        return moved;
    }

    public boolean poison(int v, int n, int mask) {
        if (!isViewer(v) || n < 1 || n > POISON_FARTHEST) {
            return false;
        }
        viewers[v].poisons.add(n, mask & 255);
        return true;
    }

    public int shown(int v) {
        return isViewer(v) ? answerOf(viewers[v].display.frontNumber) : NONE;
    }

    public int at(int v, int x, int y) {
        if (!isInside(x, y, 1, 1)) {
            return NONE;
        }
        if (v == NONE) {
            return pixelAt(drawn, x, y);
        }
        return isViewer(v) ? pixelAt(viewers[v].display.front, x, y) : NONE;
    }

    public int about(int v, int what) {
        if (!isViewer(v)) {
            return NONE;
        }
        Viewer viewer = viewers[v];
        switch (what) {
            case 0:
                return viewer.connected ? 1 : 0;
            case 1:
                return viewer.credit;
            case 2:
                return viewer.feed.line.size;
            case 3:
                return viewer.display.cameSize;
            case 4:
                return viewer.epoch;
            case 5:
                return viewer.feed.sent.countOther(closed);
            case 6:
                return answerOf(viewer.feed.sentNumber);
            case 7:
                return viewer.feed.cache.place;
            default:
                return NONE;
        }
    }

    public int bytesBy(int v, int kind) {
        if (!isViewer(v) || kind < 0 || kind >= KINDS) {
            return NONE;
        }
        return viewers[v].feed.composed[kind];
    }

    public int onLine(int v, int k) {
        return isViewer(v) ? viewers[v].feed.line.get(k) : NONE;
    }

    private static boolean isViewer(int v) {
        return v >= 0 && v < VIEWERS;
    }

    /** A frame's number may outgrow the face's int, which then has its lowest 32 bits. */
    private static int answerOf(long frameNumber) {
        return (int) frameNumber;
    }

    private static boolean isColour(int colour) {
        return colour >= 0 && colour < MODULUS;
    }

    private static boolean isInside(int x, int y, int w, int h) {
        // w and h stand alone on their sides, as x + w might overflow
        return x >= 0 && x < WIDTH && w >= 1 && w <= WIDTH - x
            && y >= 0 && y < HEIGHT && h >= 1 && h <= HEIGHT - y;
    }

    private static int tileOf(int x, int y) {
        return y / SIDE * TILES_ACROSS + x / SIDE;
    }

    private static int pixelOf(int x, int y) {
        return y % SIDE * SIDE + x % SIDE;
    }

    private static int pixelAt(Tiles picture, int x, int y) {
        return picture.get(tileOf(x, y), pixelOf(x, y));
    }

    private static int sumOf(int[] bytes, int from, int end) {
        int sum = 0;
        for (int k = from; k < end; k++) {
            sum += bytes[k];
        }
        return sum % MODULUS;
    }

    /** A row of tiles, the pixels of each side by side: a picture's or a cache's. */
    private static final class Tiles {
        private final int count;
        private final int[] pixels;

        Tiles(int count) {
            this.count = count;
            pixels = new int[count * TILE_PIXELS];
        }

        int get(int tile, int k) {
            return pixels[tile * TILE_PIXELS + k];
        }

        void set(int tile, int k, int colour) {
            pixels[tile * TILE_PIXELS + k] = colour;
        }

        void take(int tile, Tiles other, int from) {
            System.arraycopy(other.pixels, from * TILE_PIXELS, pixels, tile * TILE_PIXELS, TILE_PIXELS);
        }

        /** The other row has as many tiles. */
        void takeAll(Tiles other) {
            System.arraycopy(other.pixels, 0, pixels, 0, pixels.length);
        }

        boolean isSame(int tile, Tiles other, int otherTile) {
            int here = tile * TILE_PIXELS;
            int there = otherTile * TILE_PIXELS;
            for (int k = 0; k < TILE_PIXELS; k++) {
                if (pixels[here + k] != other.pixels[there + k]) {
                    return false;
                }
            }
            return true;
        }

        /** The least of the first tiles that is the same as one of another row, or NONE. */
        int find(int first, Tiles other, int otherTile) {
            for (int tile = 0; tile < first; tile++) {
                if (isSame(tile, other, otherTile)) {
                    return tile;
                }
            }
            return NONE;
        }

        /** The other row has as many tiles. */
        int countOther(Tiles other) {
            int differing = 0;
            for (int tile = 0; tile < count; tile++) {
                if (!isSame(tile, other, tile)) {
                    differing++;
                }
            }
            return differing;
        }
    }

    /** The tiles that went over a line last. */
    private static final class Cache {
        private final Tiles tiles = new Tiles(CACHE_TILES);
        private int place;
        /** Places are taken in their order, so those that were put in are the first ones. */
        private int used;

        void clear() {
            place = 0;
            used = 0;
        }

        void put(Tiles picture, int tile) {
            tiles.take(place, picture, tile);
            used = Math.max(used, place + 1);
            place = (place + 1) % CACHE_TILES;
        }
    }

    /** The bytes on the way to a viewer: at most an update, as none is added to another. */
    private static final class Line {
        private final int[] bytes = new int[UPDATE_MOST];
        private int first;
        private int size;

        void clear() {
            first = 0;
            size = 0;
        }

        void add(int value) {
            if (first + size < bytes.length) {
                bytes[first + size] = value;
                size++;
            }
        }

        void addPair(int value) {
            add(value >> 8 & 255);
            add(value & 255);
        }

        void set(int k, int value) {
            if (k >= 0 && k < size) {
                bytes[first + k] = value;
            }
        }

        int get(int k) {
            return k >= 0 && k < size ? bytes[first + k] : NONE;
        }

        int removeFirst() {
            if (size == 0) {
                return NONE;
            }
            int value = bytes[first];
            first++;
            size--;
            return value;
        }
    }

    /** What waits to spoil bytes that go to a viewer, each counting bytes for itself. */
    private static final class Poisons {
        private final int[] ahead = new int[POISONS_MOST];
        private final int[] masks = new int[POISONS_MOST];
        private int count;

        void add(int n, int mask) {
            if (count < POISONS_MOST) {
                count++;
            }
            ahead[count - 1] = n;
            masks[count - 1] = mask;
        }

        int spoil(int value) {
            int spoilt = value;
            int kept = 0;
            for (int k = 0; k < count; k++) {
                if (ahead[k] == 1) {
                    spoilt ^= masks[k];
                } else {
                    ahead[kept] = ahead[k] - 1;
                    masks[kept] = masks[k];
                    kept++;
                }
            }
            count = kept;
            return spoilt;
        }
    }

    /** The colours and runs of one tile. */
    private static final class Look {
        private final int[] palette = new int[PALETTE_MOST];
        /** Right up to the palette's length; above it, only that there are more. */
        private int colours;
        private int runs;

        void study(Tiles picture, int tile) {
            colours = 0;
            runs = 0;
            int before = NONE;
            for (int k = 0; k < TILE_PIXELS; k++) {
                int colour = picture.get(tile, k);
                if (colour != before) {
                    runs++;
                    meet(colour);
                }
                before = colour;
            }
        }

        private void meet(int colour) {
            if (indexOf(colour) != NONE) {
                return;
            }
            if (colours < PALETTE_MOST) {
                palette[colours] = colour;
            }
            colours++;
        }

        int indexOf(int colour) {
            for (int k = 0; k < colours && k < PALETTE_MOST; k++) {
                if (palette[k] == colour) {
                    return k;
                }
            }
            return NONE;
        }
    }

    /** What the server knows of a viewer, and the line to it. */
    private static final class Feed {
        private final Tiles sent = new Tiles(TILES);
        /** May be one that a viewer showed, so it is as long as those. */
        private long sentNumber;
        private final Cache cache = new Cache();
        private final Line line = new Line();
        private final int[] composed = new int[KINDS];
        private final Look look = new Look();
        private int twin;
        private int entry;

        void compose(Tiles closed, int number) {
            line.clear();
            for (int k = 0; k < LENGTH_BYTES; k++) {
                line.add(0);
            }
            line.addPair(number);
            for (int tile = 0; tile < TILES; tile++) {
                if (!closed.isSame(tile, sent, tile)) {
                    addRecord(closed, tile);
                }
            }
            line.addPair(sumOf(line.bytes, LENGTH_BYTES, line.size));
            int told = line.size - LENGTH_BYTES;
            line.set(0, told >> 16);
            line.set(1, told >> 8 & 255);
            line.set(2, told & 255);
            sent.takeAll(closed);
            sentNumber = number;
        }

        private void addRecord(Tiles picture, int tile) {
            look.study(picture, tile);
            twin = sent.find(TILES, picture, tile);
            entry = cache.tiles.find(cache.used, picture, tile);
            int kind = chooseKind();
            int before = line.size;
            line.add(kind);
            line.add(tile);
            addContent(kind, picture, tile);
            composed[kind] += line.size - before;
            if (kind >= MASK) {
                cache.put(picture, tile);
            }
        }

        private int chooseKind() {
            int best = RAW;
            for (int kind = RAW; kind >= SOLID; kind--) {
                if (isFit(kind) && lengthOf(kind) <= lengthOf(best)) {
                    best = kind;
                }
            }
            return best;
        }

        private boolean isFit(int kind) {
            switch (kind) {
                case SOLID:
                    return look.colours == 1;
                case COPY:
                    return twin != NONE;
                case CACHED:
                    return entry != NONE;
                case MASK:
                    return look.colours == 2;
                case PALETTE:
                    return look.colours >= PALETTE_LEAST && look.colours <= PALETTE_MOST;
                default:
                    return true;
            }
        }

        /** How many bytes follow the kind and the tile's number. */
        private int lengthOf(int kind) {
            switch (kind) {
                case SOLID:
                    return 2;
                case COPY:
                case CACHED:
                    return 1;
                case MASK:
                    return 4 + SIDE;
                case PALETTE:
                    return 1 + 2 * look.colours + TILE_PIXELS / 4;
                case RUNS:
                    return 1 + 3 * look.runs;
                default:
                    return 2 * TILE_PIXELS;
            }
        }

        private void addContent(int kind, Tiles picture, int tile) {
            switch (kind) {
                case SOLID:
                    line.addPair(look.palette[0]);
                    break;
                case COPY:
                    line.add(twin);
                    break;
                case CACHED:
                    line.add(entry);
                    break;
                case MASK:
                    addPalette();
                    addBits(picture, tile, 1);
                    break;
                case PALETTE:
                    line.add(look.colours);
                    addPalette();
                    addBits(picture, tile, 2);
                    break;
                case RUNS:
                    addRuns(picture, tile);
                    break;
                default:
                    addRaw(picture, tile);
                    break;
            }
        }

        private void addPalette() {
            for (int k = 0; k < look.colours && k < PALETTE_MOST; k++) {
                line.addPair(look.palette[k]);
            }
        }

        /** Each pixel's place in the palette, with one or two bits. */
        private void addBits(Tiles picture, int tile, int width) {
            int bits = 0;
            int held = 0;
            for (int k = 0; k < TILE_PIXELS; k++) {
                bits = bits << width | look.indexOf(picture.get(tile, k));
                held += width;
                if (held == 8) {
                    line.add(bits);
                    bits = 0;
                    held = 0;
                }
            }
        }

        private void addRuns(Tiles picture, int tile) {
            line.add(look.runs);
            int length = 0;
            for (int k = 0; k < TILE_PIXELS; k++) {
                int colour = picture.get(tile, k);
                length++;
                if (k == TILE_PIXELS - 1 || picture.get(tile, k + 1) != colour) {
                    line.add(length);
                    line.addPair(colour);
                    length = 0;
                }
            }
        }

        private void addRaw(Tiles picture, int tile) {
            for (int k = 0; k < TILE_PIXELS; k++) {
                line.addPair(picture.get(tile, k));
            }
        }
    }

    /** What a viewer has: what it shows, its cache, and the bytes that came. */
    private static final class Display {
        private final Tiles front = new Tiles(TILES);
        /** Spoilt updates may each raise it by 65536, within a run beyond an int. */
        private long frontNumber;
        /** The copy of the front that the records of an update work on. */
        private final Tiles back = new Tiles(TILES);
        private final Cache cache = new Cache();
        private final int[] came = new int[UPDATE_MOST];
        private int cameSize;
        private final int[] palette = new int[PALETTE_MOST];
        private int position;
        private int end;
        private boolean wrong;

        void forget() {
            cameSize = 0;
            cache.clear();
        }

        /** Takes a byte; false if what came is WRONG. */
        boolean receive(int value) {
            if (cameSize < UPDATE_MOST) {
                came[cameSize] = value;
                cameSize++;
            }
            if (cameSize < LENGTH_BYTES) {
                return true;
            }
            int told = came[0] << 16 | came[1] << 8 | came[2];
            if (told < TOLD_LEAST || told > TOLD_MOST) {
                return false;
            }
            return cameSize < LENGTH_BYTES + told || readUpdate();
        }

        private boolean readUpdate() {
            position = LENGTH_BYTES + NUMBER_BYTES;
            end = cameSize - SUM_BYTES;
            wrong = sumOf(came, LENGTH_BYTES, end) != pairAt(end);
            back.takeAll(front);
            for (int n = 0; n < TOLD_MOST && position < end && !wrong; n++) {
                readRecord();
            }
            if (wrong) {
                return false;
            }
            front.takeAll(back);
            frontNumber = numberAbove(frontNumber, pairAt(LENGTH_BYTES));
            cameSize = 0;
            return true;
        }

        /** The least number above one before that is the told one modulo 65536. */
        private static long numberAbove(long before, int told) {
            return before + 1 + (told - before - 1 & MODULUS - 1);
        }

        private int pairAt(int k) {
            return came[k] << 8 | came[k + 1];
        }

        private void readRecord() {
            int kind = readByte();
            int tile = readByte();
            if (tile >= TILES) {
                wrong = true;
                return;
            }
            switch (kind) {
                case SOLID:
                    paint(tile, 0, TILE_PIXELS, readColour());
                    break;
                case COPY:
                    readSource(tile, front, TILES);
                    break;
                case CACHED:
                    readSource(tile, cache.tiles, cache.used);
                    break;
                case MASK:
                    readPixels(tile, 2, 1);
                    break;
                case PALETTE:
                    readPixels(tile, readColourCount(), 2);
                    break;
                case RUNS:
                    readRuns(tile);
                    break;
                case RAW:
                    readRaw(tile);
                    break;
                default:
                    wrong = true;
                    break;
            }
            if (kind >= MASK && !wrong) {
                cache.put(back, tile);
            }
        }

        private void readSource(int tile, Tiles source, int count) {
            int from = readByte();
            if (from < count) {
                back.take(tile, source, from);
            } else {
                wrong = true;
            }
        }

        private int readColourCount() {
            int colours = readByte();
            if (colours < PALETTE_LEAST || colours > PALETTE_MOST) {
                wrong = true;
                return 0;
            }
            return colours;
        }

        /** At most four colours, then each pixel's place among them, with one or two bits. */
        private void readPixels(int tile, int colours, int width) {
            for (int k = 0; k < colours; k++) {
                palette[k] = readColour();
            }
            int bits = 0;
            int held = 0;
            for (int k = 0; k < TILE_PIXELS; k++) {
                if (held == 0) {
                    bits = readByte();
                    held = 8;
                }
                held -= width;
                int index = bits >> held & (1 << width) - 1;
                if (index < colours) {
                    back.set(tile, k, palette[index]);
                } else {
                    wrong = true;
                }
            }
        }

        private void readRuns(int tile) {
            int runs = readByte();
            int painted = 0;
            for (int n = 0; n < runs; n++) {
                int length = readByte();
                int colour = readColour();
                if (length == 0 || length > TILE_PIXELS - painted) {
                    wrong = true;
                    return;
                }
                paint(tile, painted, length, colour);
                painted += length;
            }
            if (painted != TILE_PIXELS) {
                wrong = true;
            }
        }

        private void readRaw(int tile) {
            for (int k = 0; k < TILE_PIXELS; k++) {
                back.set(tile, k, readColour());
            }
        }

        private void paint(int tile, int from, int length, int colour) {
            for (int k = from; k < from + length; k++) {
                back.set(tile, k, colour);
            }
        }

        private int readColour() {
            int high = readByte();
            return high << 8 | readByte();
        }

        /** The sum is no part of a record: one that would reach into it is WRONG. */
        private int readByte() {
            if (position >= end) {
                wrong = true;
                return 0;
            }
            int value = came[position];
            position++;
            return value;
        }
    }

    /** A viewer and how it is tied to the server. */
    private static final class Viewer {
        private final Feed feed = new Feed();
        private final Display display = new Display();
        private final Poisons poisons = new Poisons();
        private boolean connected;
        private int credit;
        private int epoch;

        void connect() {
            connected = true;
            epoch++;
            feed.sent.takeAll(display.front);
            feed.sentNumber = display.frontNumber;
            feed.cache.clear();
            display.cache.clear();
        }

        /** What was SENT and the PLACE stay as they are until the viewer joins again. */
        void disconnect() {
            connected = false;
            credit = 0;
            feed.line.clear();
            display.forget();
        }
    }
}
