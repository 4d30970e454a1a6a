import java.util.ArrayList;
import java.util.List;

/**
 * A TileScreen that is never used beyond its 512th call, as nothing is promised about it then.
 * A look that would go further is taken at a new object, at which all calls that change
 * something were made once more; these must answer there as they did before.
 */
final class Screen {
    private static final int CALLS_MOST = 512;

    /** A call that may change something. */
    private interface Change {
        int on(TileScreen s);
    }

    private final List<Change> changes = new ArrayList<>();
    private final List<Integer> answers = new ArrayList<>();
    private TileScreen screen = new TileScreen();
    private int calls = 0;

    boolean fill(int x, int y, int w, int h, int colour) {
        return change(s -> toInt(s.fill(x, y, w, h, colour))) == 1;
    }

    boolean blit(int place, int size, int x, int y) {
        return change(s -> toInt(s.blit(place, size, x, y))) == 1;
    }

    boolean shade(int tile, int row, int colour, int step) {
        return change(s -> toInt(s.shade(tile, row, colour, step))) == 1;
    }

    int frame() {
        return change(TileScreen::frame);
    }

    boolean join(int v) {
        return change(s -> toInt(s.join(v))) == 1;
    }

    boolean cut(int v) {
        return change(s -> toInt(s.cut(v))) == 1;
    }

    /** The credit, or -2 for an IllegalArgumentException, -3 for an IllegalStateException. */
    int credit(int v, int n) {
        return change(s -> creditOf(s, v, n));
    }

    int pump(int v) {
        return change(s -> s.pump(v));
    }

    boolean poison(int v, int n, int mask) {
        return change(s -> toInt(s.poison(v, n, mask))) == 1;
    }

    int shown(int v) {
        return toLookAt().shown(v);
    }

    int at(int v, int x, int y) {
        return toLookAt().at(v, x, y);
    }

    int about(int v, int what) {
        return toLookAt().about(v, what);
    }

    int bytesBy(int v, int kind) {
        return toLookAt().bytesBy(v, kind);
    }

    int onLine(int v, int k) {
        return toLookAt().onLine(v, k);
    }

    /** How many calls there were that may change something. */
    int changes() {
        return changes.size();
    }

    private static int toInt(boolean answer) {
        return answer ? 1 : 0;
    }

    private static int creditOf(TileScreen s, int v, int n) {
        try {
            return s.credit(v, n);
        } catch (IllegalArgumentException e) {
            return -2;
        } catch (IllegalStateException e) {
            return -3;
        }
    }

    private int change(Change change) {
        int answer = change.on(toLookAt());
        changes.add(change);
        answers.add(answer);
        return answer;
    }

    /** The object with room for one call more. */
    private TileScreen toLookAt() {
        if (calls == CALLS_MOST) {
            makeAnew();
        }
        calls++;
        return screen;
    }

    private void makeAnew() {
        if (changes.size() >= CALLS_MOST) {
            throw new IllegalStateException("a test makes more than " + CALLS_MOST + " calls that change something");
        }
        screen = new TileScreen();
        calls = changes.size();
        for (int k = 0; k < calls; k++) {
            Check.due("call " + k + ", made once more,", changes.get(k).on(screen), answers.get(k));
        }
    }
}
