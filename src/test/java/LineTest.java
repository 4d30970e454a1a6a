/** Promises 6 to 9, 13 and 15: viewers that join, break, and get bytes for credit. */
public final class LineTest {
    private static final int MAX = Integer.MAX_VALUE;
    private static final int MIN = Integer.MIN_VALUE;

    public static void main(String[] args) {
        join();
        joinWhenConnected();
        joinAfterBreak();
        cut();
        cutWithNothingOnTheWay();
        credit();
        creditThatWasUsed();
        creditAfterABreak();
        pump();
        pumpWhenNotConnected();
        pumpByteByByte();
        pumpComposesOnlyForCredit();
        pumpGoesOnToTheNextUpdate();
        viewersAreApart();
        about();
        onLine();
        Check.end();
    }

    private static void join() {
        Screen s = new Screen();
        for (int v = 0; v < 3; v++) {
            Check.yes("join", s.join(v));
            Check.due("connected", s.about(v, 0), 1);
            Check.due("epoch", s.about(v, 4), 1);
            Check.no("join twice", s.join(v));
            Check.due("epoch after a refused join", s.about(v, 4), 1);
        }
        for (int v : new int[] {-1, 3, MAX, MIN}) {
            Check.no("join of no viewer", s.join(v));
        }
    }

    private static void joinWhenConnected() {
        Screen s = new Screen();
        s.join(0);
        s.fill(0, 0, 8, 8, 5);
        s.fill(3, 3, 2, 2, 1);
        s.frame();
        s.credit(0, 9);
        s.pump(0);
        s.credit(0, 2);
        Check.no("join of a connected one", s.join(0));
        int[] want = {1, 2, 7 + 14 - 9, 9, 1, 0, 1, 1};
        for (int what = 0; what < 8; what++) {
            Check.due("a refused join changes nothing: about " + what, s.about(0, what), want[what]);
        }
    }

    private static void joinAfterBreak() {
        Screen s = new Screen();
        s.join(0);
        s.credit(0, 1000);
        s.fill(3, 3, 2, 2, 1);
        s.frame();
        Check.due("two colours in five runs: MASK", s.pump(0), 7 + 14);
        s.fill(0, 8, 8, 8, 2);
        s.frame();
        s.pump(0);
        Check.due("place before the break", s.about(0, 7), 1);
        s.fill(0, 0, 8, 8, 2);
        s.frame();
        s.cut(0);
        s.join(0);
        Check.due("epoch", s.about(0, 4), 2);
        Check.due("place", s.about(0, 7), 0);
        Check.due("SENT frame is the one shown", s.about(0, 6), 2);
        Check.due("SENT is the picture shown", s.about(0, 5), 1);
        Check.due("credit", s.about(0, 1), 0);
        s.credit(0, 1000);
        s.pump(0);
        s.fill(0, 0, 8, 8, 0);
        s.fill(3, 3, 2, 2, 1);
        s.frame();
        Check.due("the cache was emptied: MASK again", s.pump(0), 7 + 14);
        Check.due("MASK twice", s.bytesBy(0, 3), 28);
        Check.due("nothing CACHED", s.bytesBy(0, 2), 0);
        Check.showsDrawn("after a new join", s, 0);
    }

    private static void cut() {
        Screen s = new Screen();
        Check.no("cut of one never joined", s.cut(1));
        s.join(1);
        s.fill(0, 0, 8, 8, 5);
        s.frame();
        s.credit(1, 8);
        Check.due("pump", s.pump(1), 8);
        s.credit(1, 2);
        Check.yes("cut", s.cut(1));
        Check.due("connected", s.about(1, 0), 0);
        Check.due("credit is gone", s.about(1, 1), 0);
        Check.due("line is gone", s.about(1, 2), 0);
        Check.due("bytes that came are gone", s.about(1, 3), 0);
        Check.due("epoch stays", s.about(1, 4), 1);
        Check.due("SENT stays: the picture", s.about(1, 5), 0);
        Check.due("SENT stays: the frame", s.about(1, 6), 1);
        Check.due("nothing shown", s.at(1, 0, 0), 0);
        Check.due("pump when cut", s.pump(1), 0);
        Check.due("onLine when cut", s.onLine(1, 0), -1);
        Check.no("cut twice", s.cut(1));
        for (int v : new int[] {-1, 3, MAX, MIN}) {
            Check.no("cut of no viewer", s.cut(v));
        }
        s.join(1);
        Check.due("SENT is what is shown", s.about(1, 6), 0);
        Check.due("SENT is what is shown", s.about(1, 5), 1);
        s.credit(1, 100);
        Check.due("all again", s.pump(1), 11);
        Check.due("shown", s.at(1, 7, 7), 5);
    }

    private static void cutWithNothingOnTheWay() {
        Screen s = new Screen();
        s.join(0);
        Check.yes("cut", s.cut(0));
        Check.due("connected", s.about(0, 0), 0);
        Check.due("epoch", s.about(0, 4), 1);
        Check.no("cut again", s.cut(0));
        Check.yes("join again", s.join(0));
        Check.due("epoch", s.about(0, 4), 2);
        Check.yes("cut of the one that joined again", s.cut(0));
    }

    private static void credit() {
        Screen s = new Screen();
        Check.due("credit when not connected", s.credit(0, 1), -3);
        Check.due("wrong n comes before not connected", s.credit(0, 0), -2);
        s.join(0);
        for (int v : new int[] {-1, 3, MAX, MIN}) {
            Check.due("credit of no viewer", s.credit(v, 1), -2);
        }
        for (int n : new int[] {0, -1, 1000001, MAX, MIN}) {
            Check.due("credit of " + n, s.credit(0, n), -2);
        }
        Check.due("credit", s.credit(0, 1), 1);
        Check.due("credit adds up", s.credit(0, 999998), 999999);
        Check.due("too much", s.credit(0, 2), -3);
        Check.due("refused credit changes nothing", s.about(0, 1), 999999);
        Check.due("just as much as may be", s.credit(0, 1), 1000000);
        Check.due("one too much", s.credit(0, 1), -3);
        Check.due("far too much", s.credit(0, 1000000), -3);
        Check.due("refused credit changes nothing", s.about(0, 1), 1000000);
        s.join(1);
        Check.due("the most at once", s.credit(1, 1000000), 1000000);
    }

    private static void creditThatWasUsed() {
        Screen s = new Screen();
        s.join(0);
        s.credit(0, 1000000);
        s.frame();
        Check.due("pump", s.pump(0), 7);
        Check.due("used", s.about(0, 1), 999993);
        Check.due("one more than was used", s.credit(0, 8), -3);
        Check.due("as much as was used", s.credit(0, 7), 1000000);
    }

    private static void creditAfterABreak() {
        Screen s = new Screen();
        s.join(0);
        s.credit(0, 1000000);
        s.cut(0);
        Check.due("credit when cut", s.credit(0, 1), -3);
        Check.due("no viewer or n comes first", s.credit(0, 1000001), -2);
        s.join(0);
        Check.due("it begins anew", s.credit(0, 1000000), 1000000);
        Check.due("another one's is its own", s.credit(1, 1), -3);
    }

    private static void pump() {
        Screen s = new Screen();
        for (int v : new int[] {-1, 3, MAX, MIN}) {
            Check.due("pump of no viewer", s.pump(v), -1);
        }
        s.join(0);
        s.credit(0, 50);
        Check.due("nothing to send", s.pump(0), 0);
        s.fill(0, 0, 8, 8, 5);
        Check.due("not closed yet", s.pump(0), 0);
        s.frame();
        Check.due("pump", s.pump(0), 11);
        Check.due("credit is used", s.about(0, 1), 39);
        Check.due("bytes that came are gone", s.about(0, 3), 0);
        Check.due("again", s.pump(0), 0);
        s.frame();
        Check.due("an update without records", s.pump(0), 7);
        Check.due("shown", s.shown(0), 2);
    }

    private static void pumpWhenNotConnected() {
        Screen s = new Screen();
        s.fill(0, 0, 8, 8, 5);
        s.frame();
        Check.due("never joined", s.pump(0), 0);
        Check.due("nothing was composed", s.about(0, 6), 0);
        Check.due("nothing was composed", s.bytesBy(0, 0), 0);
        s.join(0);
        s.credit(0, 1000);
        s.cut(0);
        Check.due("cut", s.pump(0), 0);
        Check.due("nothing was composed", s.about(0, 6), 0);
        s.join(0);
        Check.due("joined without credit", s.pump(0), 0);
        Check.due("nothing was composed", s.about(0, 6), 0);
        Check.due("nothing was composed", s.about(0, 2), 0);
    }

    private static void pumpByteByByte() {
        Screen s = new Screen();
        s.join(0);
        s.fill(0, 0, 8, 8, 5);
        s.frame();
        for (int k = 1; k < 11; k++) {
            s.credit(0, 1);
            Check.due("one byte", s.pump(0), 1);
            Check.due("no credit is left", s.pump(0), 0);
            Check.due("bytes that came", s.about(0, 3), k);
            Check.due("bytes on the line", s.about(0, 2), 11 - k);
            Check.due("not shown yet", s.shown(0), 0);
            Check.due("not shown yet", s.at(0, 0, 0), 0);
        }
        s.credit(0, 1);
        Check.due("the last byte", s.pump(0), 1);
        Check.due("bytes that came are gone", s.about(0, 3), 0);
        Check.due("shown", s.shown(0), 1);
        Check.due("shown", s.at(0, 0, 0), 5);
    }

    private static void pumpComposesOnlyForCredit() {
        Screen s = new Screen();
        s.join(0);
        s.fill(0, 0, 8, 8, 5);
        s.frame();
        Check.due("without credit", s.pump(0), 0);
        Check.due("nothing was composed", s.about(0, 6), 0);
        s.credit(0, 11);
        Check.due("joining and credit compose nothing", s.about(0, 2), 0);
        s.frame();
        s.fill(0, 0, 8, 8, 6);
        Check.due("the closed frame goes", s.pump(0), 11);
        Check.due("it is the last one closed", s.shown(0), 2);
        Check.due("as it was closed", s.at(0, 0, 0), 5);
        s.frame();
        s.credit(0, 1);
        Check.due("one byte", s.pump(0), 1);
        Check.due("the rest is on the line", s.about(0, 2), 10);
        Check.due("SENT frame", s.about(0, 6), 3);
        Check.due("not shown yet", s.shown(0), 2);
        s.frame();
        s.credit(0, 10);
        Check.due("the rest", s.pump(0), 10);
        Check.due("shown", s.shown(0), 3);
        Check.due("no credit was left to compose the next", s.about(0, 6), 3);
        Check.due("nothing on the line", s.about(0, 2), 0);
    }

    private static void pumpGoesOnToTheNextUpdate() {
        Screen s = new Screen();
        s.join(0);
        s.fill(0, 0, 8, 8, 5);
        s.frame();
        s.credit(0, 4);
        s.pump(0);
        s.fill(8, 0, 8, 8, 6);
        s.frame();
        s.fill(16, 0, 8, 8, 7);
        s.frame();
        s.credit(0, 1000);
        Check.due("the rest and the next update", s.pump(0), 7 + 15);
        Check.due("frame 2 was passed over", s.shown(0), 3);
        Check.showsDrawn("two updates in one pump", s, 0);
    }

    private static void viewersAreApart() {
        Screen s = new Screen();
        s.join(0);
        s.join(2);
        s.fill(0, 0, 8, 8, 5);
        s.frame();
        s.credit(0, 100);
        s.credit(2, 5);
        Check.due("pump 0", s.pump(0), 11);
        Check.due("viewer 2 has nothing yet", s.about(2, 3), 0);
        Check.due("pump 2", s.pump(2), 5);
        s.cut(0);
        Check.due("viewer 2 stays connected", s.about(2, 0), 1);
        Check.due("viewer 2 keeps its line", s.about(2, 2), 6);
        Check.due("bytesBy 0", s.bytesBy(0, 0), 4);
        Check.due("bytesBy 1", s.bytesBy(1, 0), 0);
        Check.due("bytesBy 2", s.bytesBy(2, 0), 4);
    }

    private static void about() {
        Screen s = new Screen();
        s.join(1);
        s.fill(0, 0, 64, 8, 5);
        s.fill(1, 1, 1, 1, 6);
        s.fill(1, 3, 1, 1, 6);
        s.frame();
        s.credit(1, 10);
        Check.due("differing before", s.about(1, 5), 8);
        Check.due("pump", s.pump(1), 10);
        s.credit(1, 3);
        int[] want = {1, 3, 7 + 14 + 7 * 4 - 10, 10, 1, 0, 1, 1};
        for (int what = 0; what < 8; what++) {
            Check.due("about " + what, s.about(1, what), want[what]);
        }
        for (int what : new int[] {-1, 8, MAX, MIN}) {
            Check.due("about " + what, s.about(1, what), -1);
        }
        for (int v : new int[] {-1, 3, MAX, MIN}) {
            Check.due("about no viewer", s.about(v, 0), -1);
        }
        s.fill(0, 0, 64, 8, 0);
        s.frame();
        Check.due("differing after", s.about(1, 5), 8);
        Check.due("SENT frame after", s.about(1, 6), 1);
    }

    private static void onLine() {
        Screen s = new Screen();
        s.join(0);
        s.fill(56, 40, 8, 8, 0x1234);
        s.frame();
        s.credit(0, 2);
        s.pump(0);
        Check.bytes("line", Check.line(s, 0), 8, 0, 1, 0, 47, 0x12, 0x34, 0, 1 + 47 + 0x12 + 0x34);
        for (int k : new int[] {-1, 9, MAX, MIN}) {
            Check.due("onLine " + k, s.onLine(0, k), -1);
        }
        for (int v : new int[] {-1, 1, 3, MAX, MIN}) {
            Check.due("onLine of " + v, s.onLine(v, 0), -1);
        }
        s.credit(0, 8);
        s.pump(0);
        Check.bytes("line's last byte", Check.line(s, 0), 1 + 47 + 0x12 + 0x34);
        Check.due("beyond it", s.onLine(0, 1), -1);
    }
}
