/**
 * Every refused call: on both sides the first value that is not allowed, and the furthest; the exception that the
 * promise names (of several that hold the one listed first); and that it changed nothing ("a call that throws changes
 * nothing"), which is asked of a busy console and a second one that was not called.
 */
public final class RefusedTest {
    private static final int LEAST = Integer.MIN_VALUE;
    private static final int MOST = Integer.MAX_VALUE;

    private interface Call {
        void with(PadConsole x, int v);
    }

    private RefusedTest() {
    }

    public static void main(String[] args) {
        promise2Feed();
        promise2FeedOfAFullTape();
        promise3Grow();
        promise3GrowOfAnEmptyTape();
        promise4Patch();
        promise6Card();
        promise7Step();
        promise8Picture();
        promise11Press();
        promise13Line();
        promise14Plan();
        promise14PlanOfAFullDesk();
        promise16Text();
        promise17Stop();
        promise17NinthStop();
        promise19Restore();
        promise20Register();
        promise21Set();
        promise26Battery();
        promise29Chip();
        promise30Dot();
        promise31Row();
        promise32Hear();
        promise33Mix();
        promise34Wave();
        promise35Sound();
        promise37Look();
        allOfANewObject();
        Due.end("RefusedTest");
    }

    /** The call is refused for each of the values, and the console is as one that was not called. */
    private static void refused(String call, Class<? extends RuntimeException> due, Call made, int... values) {
        PadConsole x = Due.busy(0);
        for (int v : values) {
            Due.fail(call + " of " + v, due, () -> made.with(x, v));
        }
        Due.same("behind a refused " + call, x, Due.busy(0));
    }

    private static void promise2Feed() {
        refused("feed", Due.ARGUMENT, (x, v) -> x.feed(v, -1, -1, -1), 0, 25, -1, 48, LEAST, MOST);
    }

    /** Both hold of 0 and 25 bytes for a full tape: the first one listed is of the argument. */
    private static void promise2FeedOfAFullTape() {
        PadConsole x = new PadConsole(0);
        x.feed(1, 7, 0, 0);
        x.grow(262656);
        Due.fail("feed(0, ..) of a full tape", Due.ARGUMENT, () -> x.feed(0, 1, 1, 1));
        Due.fail("feed(25, ..) of a full tape", Due.ARGUMENT, () -> x.feed(25, 1, 1, 1));
        Due.fail("feed(2147483647, ..) of a full tape", Due.ARGUMENT, () -> x.feed(MOST, 1, 1, 1));
        for (int n = 1; n <= 24; n++) {
            int many = n;
            Due.fail("feed(" + n + ", ..) of a full tape", Due.STATE, () -> x.feed(many, 1, 1, 1));
        }
        Due.be("look(5) of a full tape", x.look(5), 262656);
        PadConsole y = new PadConsole(0);
        y.feed(1, 7, 0, 0);
        y.grow(262656 - 23);
        Due.fail("feed(24, ..) with room for 23", Due.STATE, () -> y.feed(24, 0x0101010101010101L, -1, -1));
        Due.be("look(5) with room for 23", y.look(5), 262633);
        Due.be("feed(1, ..) with room for 23", y.feed(1, 9, 0, 0), 262634);
        Due.be("feed(22, ..) with room for 22", y.feed(22, 0x0808080808080808L, 0, 0), 262656);
        Due.be("load() of it", y.load(), 0);
        y.poke(0xa000, 15);
        Due.be("peek of the last byte ahead of the refused ones", y.peek(0xbfff - 23), 7);
        Due.be("peek of the byte that was fed behind the refused ones", y.peek(0xbfff - 22), 9);
        Due.be("peek behind it", y.peek(0xbfff - 21), 8);
        Due.be("peek of the last byte", y.peek(0xbfff), 0);
    }

    /** The tape of a busy console has ten bytes. */
    private static void promise3Grow() {
        refused("grow", Due.ARGUMENT, (x, v) -> x.grow(v), 9, 0, -1, 262657, LEAST, MOST);
        PadConsole x = new PadConsole(0);
        x.feed(3, 0x030201, 0, 0);
        Due.fail("grow(2)", Due.ARGUMENT, () -> x.grow(2));
        Due.fail("grow(262657)", Due.ARGUMENT, () -> x.grow(262657));
        Due.be("grow(8192) behind refused ones", x.grow(8192), 3);
        x.load();
        for (int i = 0; i < 7; i++) {
            Due.be("peek(" + i + ") of what grew behind refused ones", x.peek(i), i % 3 + 1);
        }
    }

    private static void promise3GrowOfAnEmptyTape() {
        PadConsole x = new PadConsole(0);
        int[] wrong = {-1, LEAST, 262657, MOST};
        for (int n : wrong) {
            Due.fail("grow(" + n + ") of an empty tape, the first one listed", Due.ARGUMENT, () -> x.grow(n));
        }
        int[] lengths = {0, 1, 8192, 262655, 262656};
        for (int n : lengths) {
            Due.fail("grow(" + n + ") of an empty tape", Due.STATE, () -> x.grow(n));
        }
        Due.same("behind a refused grow of an empty tape", x, new PadConsole(0));
    }

    private static void promise4Patch() {
        refused("patch", Due.ARGUMENT, (x, v) -> x.patch(v, -1), -1, 3, 9, 10, 262648, LEAST, MOST, MOST - 7);
        PadConsole x = new PadConsole(0);
        Due.fail("patch(0, ..) of an empty tape", Due.ARGUMENT, () -> x.patch(0, -1));
        Due.fail("patch(-8, ..) of an empty tape", Due.ARGUMENT, () -> x.patch(-8, -1));
        Due.be("look(5) behind it", x.look(5), 0);
        x.feed(7, 0x07060504030201L, 0, 0);
        Due.fail("patch(0, ..) of seven bytes", Due.ARGUMENT, () -> x.patch(0, -1));
        x.feed(1, 8, 0, 0);
        Due.fail("patch(1, ..) of eight bytes", Due.ARGUMENT, () -> x.patch(1, -1));
        Due.fail("patch(-1, ..) of eight bytes", Due.ARGUMENT, () -> x.patch(-1, -1));
        x.grow(8192);
        Due.fail("patch(8185, ..) of 8192 bytes", Due.ARGUMENT, () -> x.patch(8185, -1));
        x.load();
        for (int i = 0; i < 8; i++) {
            Due.be("peek(" + i + ") behind refused patches", x.peek(i), i + 1);
            Due.be("peek(" + (8184 + i) + ") behind refused patches", x.peek(8184 + i), i + 1);
        }
    }

    private static void promise6Card() {
        refused("card", Due.ARGUMENT, (x, v) -> x.card(v), -1, 8, LEAST, MOST);
    }

    private static void promise7Step() {
        refused("step", Due.ARGUMENT, (x, v) -> x.step(v), 0, 20001, -1, -20000, LEAST, MOST);
    }

    private static void promise8Picture() {
        refused("picture", Due.ARGUMENT, (x, v) -> x.picture(v), 0, 4, -1, -3, LEAST, MOST);
    }

    private static void promise11Press() {
        refused("press of a pad", Due.ARGUMENT, (x, v) -> x.press(v, 0), -1, 2, LEAST, MOST);
        refused("press of pad 0's buttons", Due.ARGUMENT, (x, v) -> x.press(0, v), -1, 64, 128, 256, LEAST, MOST);
        refused("press of pad 1's buttons", Due.ARGUMENT, (x, v) -> x.press(1, v), -1, 64, 128, 256, LEAST, MOST);
    }

    private static void promise13Line() {
        refused("line that is up", Due.ARGUMENT, (x, v) -> x.line(v, true), -1, 2, LEAST, MOST);
        refused("line that is not up", Due.ARGUMENT, (x, v) -> x.line(v, false), -1, 2, LEAST, MOST);
    }

    /** The latest plan that waits for a busy console has the number 500. */
    private static void promise14Plan() {
        refused("plan's number", Due.ARGUMENT, (x, v) -> x.plan(v, 0, 0), 499, 0, -1, LEAST);
        refused("plan's pad", Due.ARGUMENT, (x, v) -> x.plan(500, v, 0), -1, 2, LEAST, MOST);
        refused("plan's buttons", Due.ARGUMENT, (x, v) -> x.plan(500, 1, v), -1, 64, LEAST, MOST);
        PadConsole x = new PadConsole(0);
        Due.fail("plan(-1, 0, 0), with none waiting", Due.ARGUMENT, () -> x.plan(-1, 0, 0));
        Due.fail("plan(-2147483648, 0, 0), with none waiting", Due.ARGUMENT, () -> x.plan(LEAST, 0, 0));
        Due.be("look(16)", x.look(16), 0);
    }

    private static void promise14PlanOfAFullDesk() {
        PadConsole x = new PadConsole(0);
        Due.idle(x);
        for (int i = 0; i < 256; i++) {
            x.plan(1, 0, i == 255 ? 5 : 6);
        }
        Due.fail("plan(1, 0, 1) with 256", Due.STATE, () -> x.plan(1, 0, 1));
        Due.fail("plan(2147483647, 1, 63) with 256", Due.STATE, () -> x.plan(MOST, 1, 63));
        Due.fail("plan(0, 0, 1) with 256, the first one listed", Due.ARGUMENT, () -> x.plan(0, 0, 1));
        Due.fail("plan(-1, 0, 1) with 256, the first one listed", Due.ARGUMENT, () -> x.plan(-1, 0, 1));
        Due.fail("plan(1, 2, 1) with 256, the first one listed", Due.ARGUMENT, () -> x.plan(1, 2, 1));
        Due.fail("plan(1, 0, 64) with 256, the first one listed", Due.ARGUMENT, () -> x.plan(1, 0, 64));
        Due.be("look(16) behind refused plans", x.look(16), 256);
        Due.be("in(0xdc) behind refused plans", x.in(0xdc), 255);
        x.picture(1);
        Due.be("in(0xdc), by the last plan that was taken", x.in(0xdc), 255 - 5);
        Due.be("look(16) behind the picture", x.look(16), 0);
    }

    /** TEXT of a busy console is "inc (ix+03)", eleven signs. */
    private static void promise16Text() {
        refused("text", Due.NONE, (x, v) -> x.text(v), -1, 11, 12, 32, LEAST, MOST);
        PadConsole x = new PadConsole(0);
        int[] none = {0, 1, -1, LEAST, MOST};
        for (int k : none) {
            Due.fail("text(" + k + ") at first", Due.NONE, () -> x.text(k));
        }
    }

    private static void promise17Stop() {
        refused("stop that is one", Due.ARGUMENT, (x, v) -> x.stop(v, true), -1, 65536, 0x11234, LEAST, MOST);
        refused("stop that is none", Due.ARGUMENT, (x, v) -> x.stop(v, false), -1, 65536, 0x11234, LEAST, MOST);
    }

    private static void promise17NinthStop() {
        PadConsole x = new PadConsole(0);
        for (int i = 0; i < 8; i++) {
            x.stop(0xc010 + i, true);
        }
        Due.fail("stop(0, true) with 8 others", Due.STATE, () -> x.stop(0, true));
        Due.fail("stop(0xc002, true) with 8 others", Due.STATE, () -> x.stop(0xc002, true));
        Due.fail("stop(-1, true) with 8 others, the first one listed", Due.ARGUMENT, () -> x.stop(-1, true));
        Due.fail("stop(65536, true) with 8 others, the first one listed", Due.ARGUMENT, () -> x.stop(65536, true));
        Due.fail("stop(65536, false) with 8 others, the first one listed", Due.ARGUMENT, () -> x.stop(65536, false));
        Due.be("look(6) behind refused ones", x.look(6), 8);
        x.set(19, 0xc000);
        Due.be("step(100), which a refused one does not end", x.step(100), 16);
        Due.be("stop of one of the 8", x.stop(0xc010, true), 8);
        Due.be("stop of the last of the 8", x.stop(0xc017, true), 8);
    }

    private static void promise19Restore() {
        PadConsole x = new PadConsole(0);
        Due.fail("restore() of a new object", Due.STATE, () -> x.restore());
        Due.same("behind a refused restore of a new object", x, new PadConsole(0));
        PadConsole y = afterLoad();
        Due.fail("restore() behind a load()", Due.STATE, () -> y.restore());
        Due.same("behind a refused restore behind a load()", y, afterLoad());
    }

    /** What was saved is lost by a cartridge. */
    private static PadConsole afterLoad() {
        PadConsole x = Due.busy(0);
        x.grow(16384);
        Due.be("load()", x.load(), 0);
        x.poke(0xc000, 0x3c);
        x.set(19, 0xc000);
        x.step(7);
        return x;
    }

    private static void promise20Register() {
        refused("register", Due.ARGUMENT, (x, v) -> x.register(v), -1, 27, LEAST, MOST);
    }

    private static void promise21Set() {
        refused("set", Due.ARGUMENT, (x, v) -> x.set(v, 1), -1, 26, 27, LEAST, MOST);
        PadConsole x = new PadConsole(0);
        Due.code(x, 0x76);
        x.step(1);
        Due.fail("set(26, 0) that would wake it", Due.ARGUMENT, () -> x.set(26, 0));
        Due.be("register(26), which still halts", x.register(26), 1);
    }

    private static void promise26Battery() {
        refused("battery", Due.NONE, (x, v) -> x.battery(v), -1, 32768, 65536, LEAST, MOST);
    }

    private static void promise29Chip() {
        refused("chip", Due.ARGUMENT, (x, v) -> x.chip(v), -1, 26, 27, 28, 29, 30, 31, 96, LEAST, MOST);
    }

    private static void promise30Dot() {
        refused("dot's x", Due.NONE, (x, v) -> x.dot(v, 0), -1, 256, LEAST, MOST);
        refused("dot's y", Due.NONE, (x, v) -> x.dot(0, v), -1, 192, 224, 240, LEAST, MOST);
        PadConsole handy = new PadConsole(2);
        int[] wide = {-1, 160, 255, LEAST, MOST};
        int[] high = {-1, 144, 191, LEAST, MOST};
        for (int i = 0; i < 5; i++) {
            int x = wide[i];
            int y = high[i];
            Due.fail("dot(" + x + ", 0) of a handy console", Due.NONE, () -> handy.dot(x, 0));
            Due.fail("dot(0, " + y + ") of a handy console", Due.NONE, () -> handy.dot(0, y));
        }
    }

    private static void promise31Row() {
        refused("row", Due.NONE, (x, v) -> x.row(v), -1, 192, 224, 240, LEAST, MOST);
        PadConsole handy = new PadConsole(2);
        int[] high = {-1, 144, 191, LEAST, MOST};
        for (int y : high) {
            Due.fail("row(" + y + ") of a handy console", Due.NONE, () -> handy.row(y));
        }
    }

    private static void promise32Hear() {
        PadConsole x = drained();
        Due.fail("hear() with none", Due.NONE, () -> x.hear());
        Due.fail("hear() with none again", Due.NONE, () -> x.hear());
        Due.same("behind a refused hear", x, drained());
    }

    private static void promise33Mix() {
        PadConsole x = drained();
        Due.fail("mix() with none", Due.NONE, () -> x.mix());
        Due.fail("mix() with none again", Due.NONE, () -> x.mix());
        Due.same("behind a refused mix", x, drained());
    }

    /** A console that has sounded, but of which all has been taken. */
    private static PadConsole drained() {
        PadConsole x = new PadConsole(0);
        Due.code(x, 0x76);
        x.out(0x7f, 0x93);
        x.step(43);
        while (x.look(3) > 0) {
            x.hear();
        }
        while (x.look(17) > 0) {
            x.mix();
        }
        return x;
    }

    private static void promise34Wave() {
        refused("wave", Due.ARGUMENT, (x, v) -> x.wave(v), -1, 68, 69, 127, 134, 135, 142, 143, 262, 263, 270, 271, 272, 273, LEAST, MOST);
        PadConsole x = new PadConsole(0);
        for (int what = 128; what < 272; what++) {
            int k = what;
            if (k % 8 >= 6) {
                Due.fail("wave(" + k + "), of no operator", Due.ARGUMENT, () -> x.wave(k));
            } else {
                Due.be("wave(" + k + ")", x.wave(k), k % 8 == 0 ? 127 : k % 8 == 1 ? 4 : 0);
            }
        }
    }

    private static void promise35Sound() {
        refused("sound", Due.ARGUMENT, (x, v) -> x.sound(v), -1, 19, LEAST, MOST);
    }

    private static void promise37Look() {
        refused("look", Due.ARGUMENT, (x, v) -> x.look(v), -1, 19, LEAST, MOST);
    }

    /** The refused calls of all promises on one new object: it is new still. */
    private static void allOfANewObject() {
        for (int kind = 0; kind < 3; kind++) {
            PadConsole x = new PadConsole(kind);
            Due.fail("feed", Due.ARGUMENT, () -> x.feed(0, 1, 2, 3));
            Due.fail("grow", Due.STATE, () -> x.grow(8192));
            Due.fail("patch", Due.ARGUMENT, () -> x.patch(0, 1));
            Due.fail("card", Due.ARGUMENT, () -> x.card(8));
            Due.fail("step", Due.ARGUMENT, () -> x.step(0));
            Due.fail("picture", Due.ARGUMENT, () -> x.picture(0));
            Due.fail("press", Due.ARGUMENT, () -> x.press(2, 1));
            Due.fail("line", Due.ARGUMENT, () -> x.line(2, false));
            Due.fail("plan", Due.ARGUMENT, () -> x.plan(0, 0, 64));
            Due.fail("text", Due.NONE, () -> x.text(0));
            Due.fail("stop", Due.ARGUMENT, () -> x.stop(65536, true));
            Due.fail("restore", Due.STATE, () -> x.restore());
            Due.fail("register", Due.ARGUMENT, () -> x.register(27));
            Due.fail("set", Due.ARGUMENT, () -> x.set(26, 1));
            Due.fail("battery", Due.NONE, () -> x.battery(32768));
            Due.fail("chip", Due.ARGUMENT, () -> x.chip(26));
            Due.fail("dot", Due.NONE, () -> x.dot(0, -1));
            Due.fail("row", Due.NONE, () -> x.row(-1));
            Due.fail("hear", Due.NONE, () -> x.hear());
            Due.fail("mix", Due.NONE, () -> x.mix());
            Due.fail("wave", Due.ARGUMENT, () -> x.wave(68));
            Due.fail("sound", Due.ARGUMENT, () -> x.sound(19));
            Due.fail("look", Due.ARGUMENT, () -> x.look(19));
            Due.same("a new object behind refused calls", x, new PadConsole(kind));
        }
    }
}
