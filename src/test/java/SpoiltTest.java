/** Promise 10, and what a viewer does with bytes that were spoilt. */
public final class SpoiltTest {
    private static final int MAX = Integer.MAX_VALUE;
    private static final int MIN = Integer.MIN_VALUE;

    public static void main(String[] args) {
        poison();
        poisonRefused();
        poisonOfTheFarthestByte();
        poisonsCountForThemselves();
        poisonsOnOneByte();
        poisonsOutliveABreak();
        atMostEightWait();
        lengths();
        shorterUpdate();
        longerUpdate();
        wrongSum();
        numbers();
        joinTellsWhatIsShown();
        ownCopiesAndCache();
        Check.end();
    }

    private static void poison() {
        Screen s = Spoil.startSolid();
        Check.yes("poison of the colour", s.poison(0, 9, 2 + 256));
        Check.yes("poison of the sum", s.poison(0, 11, 14 - 1024));
        s.frame();
        s.credit(0, 20);
        Check.due("pump", s.pump(0), 11);
        Check.due("connected", s.about(0, 0), 1);
        Check.due("shown", s.shown(0), 1);
        Check.due("5 xor 2", s.at(0, 0, 0), 7);
        s.fill(0, 0, 8, 8, 6);
        s.frame();
        Check.due("pump", s.pump(0), 9);
        Check.due("nothing waits any more", s.onLine(0, 0), 0);
        s.credit(0, 2);
        s.pump(0);
        Check.due("as drawn", s.at(0, 0, 0), 6);
    }

    private static void poisonRefused() {
        Screen s = Spoil.start();
        for (int v : new int[] {-1, 3, MAX, MIN}) {
            Check.no("poison of no viewer", s.poison(v, 1, 1));
        }
        for (int n : new int[] {0, -1, 10001, MAX, MIN}) {
            Check.no("poison at " + n, s.poison(0, n, 1));
        }
        Check.yes("poison of one that isn't connected", s.poison(1, 1, 1));
        Check.yes("poison at the last place", s.poison(0, 10000, 1));
        for (int k = 0; k < 8; k++) {
            Check.no("refused ones don't wait", s.poison(0, 0, 1));
        }
        s.fill(0, 0, 8, 8, 5);
        s.frame();
        s.credit(0, 100);
        Check.due("pump", s.pump(0), 11);
        Check.due("not spoilt", s.at(0, 0, 0), 5);
        s.join(1);
        s.credit(1, 100);
        Check.due("spoilt at the first byte", s.pump(1), 3);
    }

    /** 50 updates of 199 bytes and three of 7, then the 29th byte of one more: a colour's. */
    private static void poisonOfTheFarthestByte() {
        Screen s = Spoil.start();
        Check.yes("poison of the farthest byte", s.poison(0, 10000, 2));
        s.credit(0, 1000000);
        int moved = 0;
        for (int k = 0; k < 53; k++) {
            if (k < 50) {
                s.fill(0, 0, 64, 48, 1000 + k);
            }
            s.frame();
            moved += s.pump(0);
        }
        Check.due("bytes before", moved, 9971);
        Check.due("none of them was spoilt", s.at(0, 40, 0), 1049);
        s.fill(0, 0, 64, 48, 1);
        int sum = s.frame() + 47 * 24 + 48;
        s.poison(0, 198, sum >> 8 ^ sum + 2 >> 8);
        s.poison(0, 199, sum ^ sum + 2);
        Check.due("pump", s.pump(0), 199);
        Check.due("connected", s.about(0, 0), 1);
        Check.due("the tile before", s.at(0, 32, 0), 1);
        Check.due("1 xor 2", s.at(0, 40, 0), 3);
        Check.due("the tile behind", s.at(0, 48, 0), 1);
    }

    private static void poisonsCountForThemselves() {
        Screen s = Spoil.startSolid();
        s.poison(0, 11, 14);
        s.poison(0, 9, 2);
        s.frame();
        s.credit(0, 4);
        s.pump(0);
        Check.bytes("the line is not spoilt", Check.line(s, 0), 1, 0, 0, 0, 5, 0, 6);
        s.credit(0, 7);
        s.pump(0);
        Check.due("both were spoilt", s.at(0, 0, 0), 7);
        Check.due("connected", s.about(0, 0), 1);
    }

    private static void poisonsOnOneByte() {
        Screen s = Spoil.startSolid();
        s.poison(0, 9, 3);
        s.poison(0, 9, 1);
        s.poison(0, 11, 14);
        s.frame();
        s.credit(0, 100);
        s.pump(0);
        Check.due("5 xor 3 xor 1", s.at(0, 0, 0), 7);
    }

    private static void poisonsOutliveABreak() {
        Screen s = Spoil.startSolid();
        s.poison(0, 1, 1);
        s.poison(0, 3 + 9, 2);
        s.poison(0, 3 + 11, 14);
        s.frame();
        s.credit(0, 100);
        Check.due("length 65544", s.pump(0), 3);
        Check.due("connected", s.about(0, 0), 0);
        Check.due("line", s.about(0, 2), 0);
        Check.due("credit", s.about(0, 1), 0);
        s.join(0);
        s.credit(0, 100);
        Check.due("pump", s.pump(0), 11);
        Check.due("5 xor 2", s.at(0, 0, 0), 7);
    }

    private static void letWait(Screen s, int times) {
        for (int k = 0; k < times; k++) {
            s.poison(0, 10000, 0);
        }
    }

    private static void atMostEightWait() {
        Screen s = Spoil.startSolid();
        s.poison(0, 9, 2);
        letWait(s, 7);
        Check.yes("a ninth one", s.poison(0, 11, 14));
        s.frame();
        s.credit(0, 100);
        s.pump(0);
        Check.due("the first one stayed, the ninth one came in", s.at(0, 0, 0), 7);

        s = Spoil.startSolid();
        letWait(s, 7);
        s.poison(0, 9, 2);
        s.poison(0, 10000, 0);
        s.frame();
        s.credit(0, 100);
        s.pump(0);
        Check.due("the eighth one was replaced", s.at(0, 0, 0), 5);

        s = Spoil.startSolid();
        letWait(s, 6);
        s.poison(0, 1, 0);
        s.poison(0, 10000, 0);
        Spoil.compose(s);
        s.poison(0, 8, 2);
        s.poison(0, 2, 1);
        s.poison(0, 10, 14);
        s.credit(0, 100);
        s.pump(0);
        Check.due("one was done, so there was room for the 9th", s.about(0, 0), 0);
        s = Spoil.startSolid();
        letWait(s, 5);
        s.poison(0, 1, 0);
        s.poison(0, 10000, 0);
        Spoil.compose(s);
        s.poison(0, 8, 2);
        s.poison(0, 2, 1);
        s.poison(0, 10, 14);
        s.credit(0, 100);
        s.pump(0);
        Check.due("room for two: the last one took the second one's place", s.at(0, 0, 0), 7);
    }

    private static void breaksAtLength(int high, int low) {
        Screen s = Spoil.startSolid();
        Spoil.compose(s);
        Spoil.change(s, 1, high, 2, low);
        s.credit(0, 100);
        Check.due("length " + high + " " + low + ": pump", s.pump(0), 2);
        Check.due("length " + high + " " + low + ": connected", s.about(0, 0), 0);
        Check.due("length " + high + " " + low + ": line", s.about(0, 2), 0);
        Check.due("length " + high + " " + low + ": came", s.about(0, 3), 0);
        Check.due("length " + high + " " + low + ": credit", s.about(0, 1), 0);
    }

    private static void lengths() {
        breaksAtLength(0, 0);
        breaksAtLength(0, 3);
        breaksAtLength(0x18, 0x65);
        breaksAtLength(255, 255);
        Screen s = Spoil.startSolid();
        Spoil.compose(s);
        Spoil.change(s, 1, 0x18, 2, 0x64);
        s.credit(0, 100);
        Check.due("length 6244", s.pump(0), 10);
        Check.due("length 6244 may be", s.about(0, 0), 1);
        Check.due("bytes that came", s.about(0, 3), 11);
        Check.due("not shown", s.shown(0), 0);
        int came = 11;
        for (int k = 0; came < 6247 && k < 400; k++) {
            s.fill(0, 0, 64, 48, 1000 + k);
            s.frame();
            s.credit(0, Math.min(199, 6247 - came));
            came += s.pump(0);
        }
        Check.due("as many as were told", came, 6247);
        Check.due("then the sum is wrong", s.about(0, 0), 0);
    }

    private static void shorterUpdate() {
        Screen s = Spoil.startSolid();
        Spoil.compose(s);
        Spoil.change(s, 2, 4, 6, 1);
        Spoil.sendRest(s);
        Check.due("told 4: connected", s.about(0, 0), 1);
        Check.due("told 4: shown", s.shown(0), 1);
        Check.due("told 4: nothing drawn", s.at(0, 0, 0), 0);
        Check.due("told 4: the rest is of the next update", s.about(0, 3), 4);
    }

    private static void longerUpdate() {
        Screen s = Spoil.startSolid();
        Spoil.compose(s);
        s.poison(0, 2, 8 ^ 15);
        s.poison(0, 13, 4 ^ 1);
        s.poison(0, 17, 2 ^ 15);
        s.frame();
        s.credit(0, 100);
        Check.due("two updates, read as one", s.pump(0), 17);
        Check.due("connected", s.about(0, 0), 1);
        Check.due("shown", s.shown(0), 1);
        Check.due("SENT frame", s.about(0, 6), 2);
        Check.due("a later record of a tile wins", s.at(0, 0, 0), 0);
    }

    private static void wrongSum() {
        Screen s = Spoil.startSolid();
        Spoil.compose(s);
        Spoil.change(s, 10, 7);
        Spoil.dueWrong("sum, low byte", s);
        Check.due("not shown", s.at(0, 0, 0), 0);
        s = Spoil.startSolid();
        Spoil.compose(s);
        Spoil.change(s, 9, 1);
        Spoil.dueWrong("sum, high byte", s);
        s = Spoil.startSolid();
        Spoil.compose(s);
        Spoil.change(s, 3, 1);
        Spoil.dueWrong("the number is in the sum", s);
        s = Spoil.startSolid();
        Spoil.compose(s);
        Spoil.change(s, 7, 1, 8, 4);
        Spoil.dueRight("changes that keep the sum", s);
        Check.due("are shown", s.at(0, 0, 0), 260);
    }

    private static void numbers() {
        Screen s = Spoil.startSolid();
        Spoil.compose(s);
        Spoil.changeAndMend(s, 4, 0);
        Spoil.sendRest(s);
        Check.due("0 above 0", s.shown(0), 65536);
        Check.due("SENT frame", s.about(0, 6), 1);
        Spoil.compose(s);
        Spoil.sendRest(s);
        Check.due("2 above 65536", s.shown(0), 65538);
        Spoil.compose(s);
        Spoil.changeAndMend(s, 4, 2);
        Spoil.sendRest(s);
        Check.due("2 above 65538", s.shown(0), 131074);
        Spoil.compose(s);
        Spoil.changeAndMend(s, 4, 1);
        Spoil.sendRest(s);
        Check.due("1 above 131074", s.shown(0), 196609);
        s = Spoil.startSolid();
        Spoil.compose(s);
        Spoil.changeAndMend(s, 3, 255, 4, 255);
        Spoil.sendRest(s);
        Check.due("65535 above 0", s.shown(0), 65535);
    }

    private static void joinTellsWhatIsShown() {
        Screen s = Spoil.startSolid();
        Spoil.compose(s);
        Spoil.changeAndMend(s, 4, 0, 8, 7);
        Spoil.sendRest(s);
        s.cut(0);
        Check.due("SENT frame before", s.about(0, 6), 1);
        Check.due("SENT before", s.about(0, 5), 0);
        s.join(0);
        Check.due("SENT frame", s.about(0, 6), 65536);
        Check.due("SENT", s.about(0, 5), 1);
        s.credit(0, 100);
        Check.due("pump", s.pump(0), 11);
        Check.due("shown", s.shown(0), 65537);
        Check.due("mended", s.at(0, 0, 0), 5);
        s.cut(0);
        s.join(0);
        s.credit(0, 100);
        Check.due("frame 65537 isn't the closed one", s.pump(0), 7);
        s = Spoil.startSolid();
        Spoil.compose(s);
        Spoil.changeAndMend(s, 4, 2);
        Spoil.sendRest(s);
        s.cut(0);
        s.fill(0, 0, 8, 8, 6);
        s.frame();
        s.join(0);
        s.credit(0, 100);
        Check.due("frame 2 is the closed one", s.pump(0), 0);
        Check.due("though it differs", s.about(0, 5), 1);
    }

    private static void ownCopiesAndCache() {
        Screen s = Spoil.start();
        s.fill(16, 0, 8, 8, 5);
        Spoil.compose(s);
        Spoil.changeAndMend(s, 8, 7);
        Spoil.dueRight("spoilt colour", s);
        s.blit(16, 520, 0, 8);
        Spoil.compose(s);
        Spoil.dueRight("COPY", s);
        Check.due("COPY of the viewer's own tile", s.at(0, 0, 8), 7);

        s = Spoil.start();
        Spoil.dots(s, 101);
        Spoil.compose(s);
        Spoil.changeAndMend(s, 8, 102);
        Spoil.dueRight("spoilt MASK", s);
        s.fill(0, 0, 8, 8, 0);
        Spoil.compose(s);
        Spoil.dueRight("COPY", s);
        Check.due("COPY", s.at(0, 0, 0), 0);
        Spoil.dots(s, 101);
        Spoil.compose(s);
        Check.due("CACHED", s.onLine(0, 4), 2);
        Spoil.dueRight("CACHED", s);
        Check.due("CACHED in the viewer's own cache", s.at(0, 0, 0), 102);
    }
}
