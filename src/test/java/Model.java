import java.util.ArrayList;
import java.util.Arrays;
import java.util.List;

/**
 * The document once more, written for plainness alone and in another way than the class:
 * pictures by rows and columns, bytes in lists, every kind of record made before one is chosen.
 */
final class Model {
    static final class WrongException extends RuntimeException {
        private static final long serialVersionUID = 1;
    }

    static final class Side {
        int[][] picture = new int[48][64];
        long number = 0;
        int[][] cache = new int[16][];
        int place = 0;

        void emptyCache() {
            cache = new int[16][];
            place = 0;
        }

        void put(int[] tile) {
            cache[place] = tile;
            place = place == 15 ? 0 : place + 1;
        }
    }

    static final class View {
        Side own = new Side();
        Side sent = new Side();
        boolean connected = false;
        int credit = 0;
        int epoch = 0;
        List<Integer> line = new ArrayList<>();
        List<Integer> came = new ArrayList<>();
        long moved = 0;
        /** Each: which of all bytes ever moved, and the mask. */
        List<long[]> poisons = new ArrayList<>();
        int[] composed = new int[7];
    }

    int[][] drawn = new int[48][64];
    int[][] closed = new int[48][64];
    int number = 0;
    View[] views = {new View(), new View(), new View()};

    static int[][] copyOf(int[][] picture) {
        int[][] copy = new int[48][];
        for (int y = 0; y < 48; y++) {
            copy[y] = picture[y].clone();
        }
        return copy;
    }

    static int[] tile(int[][] picture, int t) {
        int[] pixels = new int[64];
        for (int k = 0; k < 64; k++) {
            pixels[k] = picture[8 * (t / 8) + k / 8][8 * (t % 8) + k % 8];
        }
        return pixels;
    }

    static void paste(int[][] picture, int t, int[] pixels) {
        for (int k = 0; k < 64; k++) {
            picture[8 * (t / 8) + k / 8][8 * (t % 8) + k % 8] = pixels[k];
        }
    }

    boolean none(int v) {
        return v < 0 || v > 2;
    }

    static boolean inside(long x, long y, long w, long h) {
        return w > 0 && h > 0 && x >= 0 && y >= 0 && x + w <= 64 && y + h <= 48;
    }

    boolean fill(int x, int y, int w, int h, int colour) {
        if (!inside(x, y, w, h) || colour < 0 || colour > 65535) {
            return false;
        }
        for (int j = y; j < y + h; j++) {
            Arrays.fill(drawn[j], x, x + w, colour);
        }
        return true;
    }

    boolean blit(int place, int size, int x, int y) {
        for (int h = 1; h <= 48; h++) {
            int w = size - 64 * h;
            if (w < 1 || w > 64) {
                continue;
            }
            if (place < 0 || !inside(place % 64, place / 64, w, h) || !inside(x, y, w, h)) {
                return false;
            }
            int[][] old = copyOf(drawn);
            for (int j = 0; j < h; j++) {
                System.arraycopy(old[place / 64 + j], place % 64, drawn[y + j], x, w);
            }
            return true;
        }
        return false;
    }

    boolean shade(int tile, int row, int colour, int step) {
        if (tile < 0 || tile > 47 || row < 0 || row > 7 || colour < 0 || colour > 65535) {
            return false;
        }
        for (int k = 0; k < 8; k++) {
            drawn[8 * (tile / 8) + row][8 * (tile % 8) + k] = (int) Math.floorMod(colour + (long) step * k, 65536L);
        }
        return true;
    }

    int frame() {
        closed = copyOf(drawn);
        return ++number;
    }

    boolean join(int v) {
        if (none(v) || views[v].connected) {
            return false;
        }
        View view = views[v];
        view.connected = true;
        view.sent.picture = copyOf(view.own.picture);
        view.sent.number = view.own.number;
        view.sent.emptyCache();
        view.own.emptyCache();
        view.epoch++;
        return true;
    }

    void breakDown(View view) {
        view.connected = false;
        view.line.clear();
        view.came.clear();
        view.credit = 0;
        view.own.emptyCache();
    }

    boolean cut(int v) {
        if (none(v) || !views[v].connected) {
            return false;
        }
        breakDown(views[v]);
        return true;
    }

    /** -2 for an IllegalArgumentException, -3 for an IllegalStateException. */
    int credit(int v, int n) {
        if (none(v) || n < 1 || n > 1000000) {
            return -2;
        }
        if (!views[v].connected || views[v].credit + n > 1000000) {
            return -3;
        }
        return views[v].credit += n;
    }

    int pump(int v) {
        if (none(v)) {
            return -1;
        }
        View view = views[v];
        int moved = 0;
        while (view.connected && view.credit > 0) {
            if (view.line.isEmpty() && view.sent.number != number) {
                compose(view);
            }
            if (view.line.isEmpty()) {
                return moved;
            }
            int b = view.line.remove(0);
            view.credit--;
            view.moved++;
            moved++;
            for (long[] p : view.poisons) {
                if (p[0] == view.moved) {
                    b ^= (int) p[1];
                }
            }
            view.poisons.removeIf(p -> p[0] == view.moved);
            come(view, b);
        }
        return moved;
    }

    boolean poison(int v, int n, int mask) {
        if (none(v) || n < 1 || n > 10000) {
            return false;
        }
        List<long[]> poisons = views[v].poisons;
        if (poisons.size() == 8) {
            poisons.remove(7);
        }
        poisons.add(new long[] {views[v].moved + n, mask & 255});
        return true;
    }

    int shown(int v) {
        return none(v) ? -1 : (int) views[v].own.number;
    }

    int at(int v, int x, int y) {
        if (v != -1 && none(v) || !inside(x, y, 1, 1)) {
            return -1;
        }
        return (v == -1 ? drawn : views[v].own.picture)[y][x];
    }

    int about(int v, int what) {
        if (none(v) || what < 0 || what > 7) {
            return -1;
        }
        View view = views[v];
        int differing = 0;
        for (int t = 0; t < 48; t++) {
            differing += Arrays.equals(tile(view.sent.picture, t), tile(closed, t)) ? 0 : 1;
        }
        int[] all = {view.connected ? 1 : 0, view.credit, view.line.size(), view.came.size(), view.epoch,
            differing, (int) view.sent.number, view.sent.place};
        return all[what];
    }

    int bytesBy(int v, int kind) {
        return none(v) || kind < 0 || kind > 6 ? -1 : views[v].composed[kind];
    }

    int onLine(int v, int k) {
        return none(v) || k < 0 || k >= views[v].line.size() ? -1 : views[v].line.get(k);
    }

    static void colour(List<Integer> out, int colour) {
        out.add(colour / 256);
        out.add(colour % 256);
    }

    void compose(View view) {
        List<Integer> body = new ArrayList<>();
        colour(body, number % 65536);
        for (int t = 0; t < 48; t++) {
            int[] pixels = tile(closed, t);
            if (Arrays.equals(pixels, tile(view.sent.picture, t))) {
                continue;
            }
            List<Integer> best = null;
            for (int kind = 0; kind < 7; kind++) {
                List<Integer> record = record(view, kind, t, pixels);
                if (record != null && (best == null || record.size() < best.size())) {
                    best = record;
                }
            }
            body.addAll(best);
            view.composed[best.get(0)] += best.size();
            if (best.get(0) > 2) {
                view.sent.put(pixels);
            }
        }
        int sum = 0;
        for (int b : body) {
            sum += b;
        }
        colour(body, sum % 65536);
        view.line.add(body.size() / 65536);
        view.line.add(body.size() / 256 % 256);
        view.line.add(body.size() % 256);
        view.line.addAll(body);
        view.sent.picture = copyOf(closed);
        view.sent.number = number;
    }

    /** A record of a kind, or null if the tile can't go as one. */
    List<Integer> record(View view, int kind, int t, int[] pixels) {
        List<Integer> out = new ArrayList<>(List.of(kind, t));
        List<Integer> colours = new ArrayList<>();
        for (int p : pixels) {
            if (!colours.contains(p)) {
                colours.add(p);
            }
        }
        if (kind == 0) {
            if (colours.size() != 1) {
                return null;
            }
            colour(out, pixels[0]);
            return out;
        }
        if (kind == 1) {
            for (int other = 0; other < 48; other++) {
                if (Arrays.equals(tile(view.sent.picture, other), pixels)) {
                    out.add(other);
                    return out;
                }
            }
            return null;
        }
        if (kind == 2) {
            for (int entry = 0; entry < 16; entry++) {
                if (view.sent.cache[entry] != null && Arrays.equals(view.sent.cache[entry], pixels)) {
                    out.add(entry);
                    return out;
                }
            }
            return null;
        }
        if (kind == 3) {
            if (colours.size() != 2) {
                return null;
            }
            colour(out, colours.get(0));
            colour(out, colours.get(1));
            for (int row = 0; row < 8; row++) {
                String bits = "";
                for (int k = 0; k < 8; k++) {
                    bits += colours.indexOf(pixels[8 * row + k]);
                }
                out.add(Integer.parseInt(bits, 2));
            }
            return out;
        }
        if (kind == 4) {
            if (colours.size() != 3 && colours.size() != 4) {
                return null;
            }
            out.add(colours.size());
            for (int c : colours) {
                colour(out, c);
            }
            for (int k = 0; k < 64; k += 4) {
                String digits = "";
                for (int j = 0; j < 4; j++) {
                    digits += colours.indexOf(pixels[k + j]);
                }
                out.add(Integer.parseInt(digits, 4));
            }
            return out;
        }
        if (kind == 5) {
            List<int[]> runs = new ArrayList<>();
            for (int p : pixels) {
                if (!runs.isEmpty() && runs.get(runs.size() - 1)[1] == p) {
                    runs.get(runs.size() - 1)[0]++;
                } else {
                    runs.add(new int[] {1, p});
                }
            }
            out.add(runs.size());
            for (int[] run : runs) {
                out.add(run[0]);
                colour(out, run[1]);
            }
            return out;
        }
        for (int p : pixels) {
            colour(out, p);
        }
        return out;
    }

    void come(View view, int b) {
        view.came.add(b);
        if (view.came.size() < 3) {
            return;
        }
        int told = 65536 * view.came.get(0) + 256 * view.came.get(1) + view.came.get(2);
        if (told < 4 || told > 6244) {
            breakDown(view);
            return;
        }
        if (view.came.size() < 3 + told) {
            return;
        }
        try {
            wholeUpdate(view, new ArrayList<>(view.came.subList(3, 3 + told)));
            view.came.clear();
        } catch (WrongException e) {
            breakDown(view);
        }
    }

    static int take(List<Integer> in) {
        if (in.isEmpty()) {
            throw new WrongException();
        }
        return in.remove(0);
    }

    static int takeColour(List<Integer> in) {
        int high = take(in);
        return 256 * high + take(in);
    }

    void wholeUpdate(View view, List<Integer> in) {
        int told = 256 * in.get(in.size() - 2) + in.get(in.size() - 1);
        in.remove(in.size() - 1);
        in.remove(in.size() - 1);
        int sum = 0;
        for (int b : in) {
            sum += b;
        }
        if (sum % 65536 != told) {
            throw new WrongException();
        }
        long frame = takeColour(in);
        int[][] copy = copyOf(view.own.picture);
        while (!in.isEmpty()) {
            int kind = take(in);
            int t = take(in);
            if (t > 47) {
                throw new WrongException();
            }
            int[] pixels = pixels(view, kind, in);
            paste(copy, t, pixels);
            if (kind > 2) {
                view.own.put(pixels);
            }
        }
        while (frame <= view.own.number) {
            frame += 65536;
        }
        view.own.picture = copy;
        view.own.number = frame;
    }

    int[] pixels(View view, int kind, List<Integer> in) {
        int[] pixels = new int[64];
        if (kind == 0) {
            Arrays.fill(pixels, takeColour(in));
        } else if (kind == 1) {
            int other = take(in);
            if (other > 47) {
                throw new WrongException();
            }
            return tile(view.own.picture, other);
        } else if (kind == 2) {
            int entry = take(in);
            if (entry > 15 || view.own.cache[entry] == null) {
                throw new WrongException();
            }
            return view.own.cache[entry];
        } else if (kind == 3) {
            int[] colours = {takeColour(in), takeColour(in)};
            for (int row = 0; row < 8; row++) {
                int bits = take(in);
                for (int k = 0; k < 8; k++) {
                    pixels[8 * row + k] = colours[bits / (1 << 7 - k) % 2];
                }
            }
        } else if (kind == 4) {
            int[] colours = new int[take(in)];
            if (colours.length != 3 && colours.length != 4) {
                throw new WrongException();
            }
            for (int c = 0; c < colours.length; c++) {
                colours[c] = takeColour(in);
            }
            for (int k = 0; k < 64; k += 4) {
                int bits = take(in);
                int[] four = {bits / 64, bits / 16 % 4, bits / 4 % 4, bits % 4};
                for (int j = 0; j < 4; j++) {
                    if (four[j] >= colours.length) {
                        throw new WrongException();
                    }
                    pixels[k + j] = colours[four[j]];
                }
            }
        } else if (kind == 5) {
            List<Integer> all = new ArrayList<>();
            int runs = take(in);
            for (int r = 0; r < runs; r++) {
                int length = take(in);
                int colour = takeColour(in);
                if (length == 0) {
                    throw new WrongException();
                }
                for (int k = 0; k < length; k++) {
                    all.add(colour);
                }
            }
            if (all.size() != 64) {
                throw new WrongException();
            }
            for (int k = 0; k < 64; k++) {
                pixels[k] = all.get(k);
            }
        } else if (kind == 6) {
            for (int k = 0; k < 64; k++) {
                pixels[k] = takeColour(in);
            }
        } else {
            throw new WrongException();
        }
        return pixels;
    }
}
