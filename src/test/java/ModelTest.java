import java.util.Random;

/** Long runs of calls, made up from fixed seeds: the class answers as the Model does. */
public final class ModelTest {
    private static final int RUNS = 2500;
    /** So many calls that change something leave room for looks within 512. */
    private static final int CHANGES = 256;
    private static final int[] ODD = {-1, -2, 3, 8, 48, 64, Integer.MAX_VALUE, Integer.MIN_VALUE};

    private final Random random;
    private final Screen screen = new Screen();
    private final Model model = new Model();
    private final String name;
    /** How lively colours are: few of them make copies and short records. */
    private final int colours;
    /** The most credit at once: little of it leaves updates on the lines. */
    private final int most;
    private static final int[] seen = new int[7];
    private static int breaks = 0;
    private static int frames = 0;
    private static int spoilt = 0;

    private ModelTest(int seed) {
        random = new Random(seed);
        name = "run " + seed + ", ";
        colours = new int[] {2, 3, 5, 300, 65536}[seed % 5];
        most = new int[] {50, 1000000, 500}[seed % 3];
    }

    public static void main(String[] args) {
        for (int seed = 0; seed < RUNS; seed++) {
            new ModelTest(seed).run();
        }
        for (int kind = 0; kind < 7; kind++) {
            Check.yes("records of kind " + kind + " were composed", seen[kind] > 10000);
        }
        Check.yes("viewers broke by themselves", breaks > 1000);
        Check.yes("frames were shown", frames > 5000);
        Check.yes("spoilt frames were shown", spoilt > 300);
        Check.end();
    }

    private void run() {
        while (screen.changes() < CHANGES) {
            step();
        }
        lookAtPicture(-1);
        for (int v = 0; v < 3; v++) {
            look(v);
            lookAtPicture(v);
            for (int kind = 0; kind < 7; kind++) {
                seen[kind] += screen.bytesBy(v, kind);
            }
        }
    }

    private int below(int n) {
        return random.nextInt(n);
    }

    private boolean rarely() {
        return below(40) == 0;
    }

    private int oddOr(int usual) {
        return rarely() ? ODD[below(ODD.length)] : usual;
    }

    private int viewer() {
        return oddOr(below(4) == 0 ? below(3) : 0);
    }

    private int colour() {
        return oddOr(below(colours));
    }

    private void due(String call, int v, long got, long want) {
        Check.due(name + call + " of " + v, got, want);
    }

    private void same(String call, int v, boolean got, boolean want) {
        due(call, v, got ? 1 : 0, want ? 1 : 0);
    }

    /** One call or a few that belong together. */
    private void step() {
        int kind = below(20);
        if (kind < 7) {
            draw(kind);
        } else if (kind < 10) {
            due("frame", -1, screen.frame(), model.frame());
        } else if (kind == 16) {
            spoilUpdate();
        } else {
            callOf(viewer(), kind);
        }
    }

    private void draw(int kind) {
        if (kind < 2) {
            fill();
        } else if (kind < 4) {
            blit();
        } else if (kind < 6) {
            shade();
        } else {
            tileOfLetters();
        }
    }

    private void callOf(int v, int kind) {
        if (kind < 12) {
            same("join", v, screen.join(v), model.join(v));
        } else if (kind == 12) {
            if (below(4) == 0) {
                same("cut", v, screen.cut(v), model.cut(v));
            }
        } else if (kind < 15) {
            credit(v, oddOr(1 + below(below(3) == 0 ? most : below(2) == 0 ? 20 : 1 + most / 300)));
        } else if (kind == 15) {
            poison(v);
        } else {
            pump(v);
        }
    }

    private void credit(int v, int n) {
        due("credit " + n, v, screen.credit(v, n), model.credit(v, n));
    }

    private void fill() {
        boolean whole = below(3) == 0;
        int x = oddOr(whole ? 8 * below(8) : below(64));
        int y = oddOr(whole ? 8 * below(6) : below(48));
        int w = oddOr(whole ? 8 * (1 + below(2)) : 1 + below(9));
        int h = oddOr(whole ? 8 : 1 + below(5));
        int c = colour();
        same("fill", x, screen.fill(x, y, w, h, c), model.fill(x, y, w, h, c));
    }

    private void blit() {
        boolean whole = below(3) != 0;
        int place = oddOr(whole ? 512 * below(6) + 8 * below(8) : below(3072));
        int size = oddOr(whole ? 520 : 65 + below(1000));
        int x = oddOr(whole ? 8 * below(8) : below(64));
        int y = oddOr(whole ? 8 * below(6) : below(48));
        same("blit", size, screen.blit(place, size, x, y), model.blit(place, size, x, y));
    }

    private void shade() {
        int tile = oddOr(below(48));
        int row = oddOr(below(8));
        int c = colour();
        int step = rarely() ? random.nextInt() : below(3) == 0 ? 0 : below(600) - 300;
        int times = below(3) == 0 ? 8 : 1;
        for (int k = 0; k < times; k++) {
            int r = times == 8 ? k : row;
            same("shade", tile, screen.shade(tile, r, c, step), model.shade(tile, r, c, step));
        }
    }

    /** A tile of some pixels on one ground, for MASK, PALETTE and RUNS. */
    private void tileOfLetters() {
        int x = 8 * below(8);
        int y = 8 * below(6);
        int many = 1 + below(6);
        int ground = below(colours);
        screen.fill(x, y, 8, 8, ground);
        model.fill(x, y, 8, 8, ground);
        for (int k = 0; k < many; k++) {
            int px = x + below(8);
            int py = y + below(8);
            int c = below(colours);
            screen.fill(px, py, 1, 1, c);
            model.fill(px, py, 1, 1, c);
        }
    }

    private void poison(int v) {
        if (below(3) != 0) {
            return;
        }
        int n = oddOr(1 + below(below(2) == 0 ? 40 : 10000));
        int mask = below(3) == 0 ? random.nextInt() : 1 << below(8);
        same("poison " + n, v, screen.poison(v, n, mask), model.poison(v, n, mask));
    }

    private void pump(int v) {
        int before = screen.shown(v);
        int connected = screen.about(v, 0);
        due("pump", v, screen.pump(v), model.pump(v));
        if (screen.shown(v) != before) {
            frames++;
        }
        if (screen.about(v, 0) < connected) {
            breaks++;
        }
        look(v);
    }

    /** Spoils bytes of records that are on a line and makes the sum right, so that they are read. */
    private void spoilUpdate() {
        int v = 0;
        if (model.views[v].came.size() > 2 || !model.views[v].poisons.isEmpty()) {
            return;
        }
        if (screen.about(v, 2) == 0) {
            if (screen.about(v, 1) != 0) {
                return;
            }
            credit(v, 1);
            pump(v);
        }
        if (screen.about(v, 2) >= 6) {
            spoilNow(v);
        }
    }

    private void spoilNow(int v) {
        int size = screen.about(v, 2);
        int header = 3 - model.views[v].came.size();
        int[] bytes = new int[size];
        for (int k = 0; k < size; k++) {
            bytes[k] = model.onLine(v, k);
        }
        int changes = 1 + below(6);
        for (int k = 0; k < changes; k++) {
            int place = header + (below(8) == 0 ? below(2) : 2 + below(Math.min(size - header - 4, 30) + 1));
            if (place >= size - 2) {
                continue;
            }
            int wanted = below(2) == 0 ? below(8) : below(3) == 0 ? below(256) : below(50);
            spoil(v, place, bytes[place] ^ wanted);
            bytes[place] = wanted;
        }
        int sum = 0;
        for (int k = header; k < size - 2; k++) {
            sum += bytes[k];
        }
        spoil(v, size - 2, bytes[size - 2] ^ sum >> 8 & 255);
        spoil(v, size - 1, bytes[size - 1] ^ sum & 255);
        int before = screen.shown(v);
        credit(v, size);
        pump(v);
        if (screen.shown(v) != before) {
            spoilt++;
        }
    }

    private void spoil(int v, int place, int mask) {
        same("poison", v, screen.poison(v, 1 + place, mask), model.poison(v, 1 + place, mask));
    }

    private void look(int v) {
        due("shown", v, screen.shown(v), model.shown(v));
        for (int what = -1; what < 9; what++) {
            due("about " + what, v, screen.about(v, what), model.about(v, what));
        }
        for (int kind = -1; kind < 8; kind++) {
            due("bytesBy " + kind, v, screen.bytesBy(v, kind), model.bytesBy(v, kind));
        }
        for (int k = 0; k < 20; k++) {
            int x = oddOr(below(64));
            int y = oddOr(below(48));
            due("at", v, screen.at(v, x, y), model.at(v, x, y));
        }
        lookAtLine(v, Math.max(0, screen.about(v, 2)));
    }

    /** The first bytes, some of the others, and beyond both ends. */
    private void lookAtLine(int v, int size) {
        for (int k = -1; k < Math.min(size, 30); k++) {
            due("onLine " + k, v, screen.onLine(v, k), model.onLine(v, k));
        }
        for (int k = size; k > Math.max(30, size - 5); k--) {
            due("onLine " + k, v, screen.onLine(v, k), model.onLine(v, k));
        }
        for (int n = 0; n < 30 && size > 30; n++) {
            int k = below(size);
            due("onLine " + k, v, screen.onLine(v, k), model.onLine(v, k));
        }
    }

    private void lookAtPicture(int v) {
        for (int y = 0; y < 48; y++) {
            for (int x = 0; x < 64; x++) {
                due("at", v, screen.at(v, x, y), model.at(v, x, y));
            }
        }
    }
}
