/** Promises 7 to 10, 14, 17 to 19, 36, 37: step, picture, reset, pause, plan, stop, save, restore, trace, look. */
public final class DeskTest {
    private DeskTest() {
    }

    public static void main(String[] args) {
        step();
        picture();
        reset();
        pause();
        pauseBehindEiAndPrefix();
        resetForgetsEi();
        plans();
        planOrder();
        stops();
        runsAndStops();
        saveAndRestore();
        savedIsNotTrace();
        restoreNeedsSave();
        trace();
        look();
        Due.end("DeskTest");
    }

    private static void step() {
        PadConsole x = new PadConsole(0);
        Due.idle(x);
        Due.fail("step(0)", Due.ARGUMENT, () -> x.step(0));
        Due.fail("step(-1)", Due.ARGUMENT, () -> x.step(-1));
        Due.fail("step(20001)", Due.ARGUMENT, () -> x.step(20001));
        Due.be("look(1) behind wrong steps", x.look(1), 0);
        Due.be("step(1)", x.step(1), 1);
        Due.be("look(0)", x.look(0), 12);
        Due.be("step(20000)", x.step(20000), 20000);
        Due.be("look(0)", x.look(0), 12 * 20001);
        Due.be("look(1)", x.look(1), 20001);
        Due.be("look(2)", x.look(2), 12 * 20001 / (262 * 228));
    }

    private static void picture() {
        PadConsole x = new PadConsole(0);
        Due.idle(x);
        Due.fail("picture(0)", Due.ARGUMENT, () -> x.picture(0));
        Due.fail("picture(-1)", Due.ARGUMENT, () -> x.picture(-1));
        Due.fail("picture(4)", Due.ARGUMENT, () -> x.picture(4));
        int beats = 262 * 228;
        Due.be("picture(1)", x.picture(1), (beats + 11) / 12);
        Due.be("picture(2)", x.picture(2), (3 * beats + 11) / 12 - (beats + 11) / 12);
        Due.be("look(2)", x.look(2), 3);
        Due.be("picture(3)", x.picture(3), (6 * beats + 11) / 12 - (3 * beats + 11) / 12);
        Due.be("look(2)", x.look(2), 6);
        Due.be("chip(20)", x.chip(20), 0);
        Due.be("chip(21)", x.chip(21), (6 * beats + 11) / 12 * 12 - 6 * beats);
        x.stop(0xc000, true);
        Due.be("picture(1) with a break point", x.picture(1), 1);
        PadConsole y = new PadConsole(1);
        Due.code(y, 0x76);
        Due.be("picture(3) of a console that halts", y.picture(3), 3 * 313 * 228 / 4);
        Due.be("look(2)", y.look(2), 3);
    }

    private static void reset() {
        PadConsole x = new PadConsole(0);
        Due.idle(x);
        for (int k = 0; k < 26; k++) {
            if (k != 19) {
                x.set(k, 0x0103);
            }
        }
        x.step(400);
        for (int k = 0; k < 11; k++) {
            Due.videoRegister(x, k, 0x10 + k);
        }
        Due.vram(x, 5, 1, 2, 3);
        Due.cram(x, 3, 9);
        x.out(0xbf, 7);
        x.out(0x7f, 0x8f);
        x.out(0x7f, 0xd1);
        x.out(0x7f, 0xe5);
        x.out(0xf0, 16);
        x.out(0xf1, 99);
        x.out(0xf2, 3);
        x.out(0x3f, 0xf5);
        x.press(0, 9);
        x.line(0, false);
        x.step(1);
        long beats = x.look(0);
        long samples = x.look(3);
        long mixes = x.look(17);
        int n = x.wave(66);
        x.reset();
        for (int k = 0; k < 27; k++) {
            Due.be("register(" + k + ") behind reset()", x.register(k), k == 18 ? 0xdff0 : 0);
        }
        for (int k = 0; k < 26; k++) {
            int due = k == 23 ? 192 : 0;
            Due.be("chip(" + k + ") behind reset()", x.chip(k), due);
        }
        Due.be("chip(35) behind reset()", x.chip(35), 0);
        Due.be("video(0) behind reset()", x.video(0), 0);
        for (int k = 0; k < 19; k++) {
            int due = k >= 9 && k <= 12 ? 15 : k == 16 ? 0x8000 : k == 18 ? 255 : 0;
            Due.be("sound(" + k + ") behind reset()", x.sound(k), due);
        }
        Due.be("wave(16) behind reset()", x.wave(16), 0);
        Due.be("wave(64) behind reset()", x.wave(64), 0);
        Due.be("wave(65) behind reset()", x.wave(65), 1);
        Due.be("wave(66) behind reset()", x.wave(66), n);
        Due.be("wave(67) behind reset()", x.wave(67), 0);
        Due.be("wave(128) behind reset()", x.wave(128), 127);
        Due.be("wave(129) behind reset()", x.wave(129), 4);
        Due.be("look(0) behind reset()", x.look(0), beats);
        Due.be("look(1) behind reset()", x.look(1), 401);
        Due.be("look(3) behind reset()", x.look(3), samples);
        Due.be("look(17) behind reset()", x.look(17), mixes);
        Due.be("look(13) behind reset()", x.look(13), 0);
        Due.be("look(14) behind reset()", x.look(14), 255);
        Due.be("in(0xdc) behind reset()", x.in(0xdc), 0xf6);
        Due.be("in(0xdd) behind reset()", x.in(0xdd), 0xbf);
        Due.be("peek(0xc000) behind reset()", x.peek(0xc000), 0x18);
        Due.be("trace(0) behind reset()", x.trace(0), 0xc000);
    }

    private static void pause() {
        PadConsole x = new PadConsole(0);
        Due.be("pause()", x.pause(), true);
        Due.be("look(12)", x.look(12), 1);
        Due.code(x, 0x76);
        x.set(23, 1);
        x.set(24, 1);
        x.set(22, 255);
        Due.be("step(1)", x.step(1), 1);
        Due.be("register(19) behind a pause", x.register(19), 0x66);
        Due.be("register(20) behind a pause", x.register(20), 0x66);
        Due.be("register(22) behind a pause", x.register(22), 128);
        Due.be("register(23) behind a pause", x.register(23), 0);
        Due.be("register(24) behind a pause", x.register(24), 1);
        Due.be("register(18) behind a pause", x.register(18), 0xdfee);
        Due.be("peek(0xdfef)", x.peek(0xdfef), 0xc0);
        Due.be("look(0)", x.look(0), 11);
        Due.be("look(12)", x.look(12), 0);
        x.set(19, 0xc000);
        x.step(2);
        Due.be("register(26)", x.register(26), 1);
        Due.be("register(19) that halts", x.register(19), 0xc001);
        x.pause();
        x.step(1);
        Due.be("register(26) behind a pause", x.register(26), 0);
        Due.be("peek of what was pushed", x.peek(0xdfec), 1);
        PadConsole handy = new PadConsole(2);
        Due.be("pause() of a handy console", handy.pause(), false);
        Due.be("look(12) of a handy console", handy.look(12), 0);
    }

    private static void pauseBehindEiAndPrefix() {
        PadConsole x = new PadConsole(0);
        Due.code(x, 0xfb, 0x00, 0xdd, 0xdd, 0x00, 0x00);
        x.step(1);
        x.pause();
        x.step(1);
        Due.be("register(19) a step behind EI", x.register(19), 0xc002);
        Due.be("look(12) a step behind EI", x.look(12), 1);
        x.step(1);
        Due.be("register(19) two steps behind EI", x.register(19), 0x66);
        Due.ram(x, 0xc006, 0xf3, 0x00);
        x.set(19, 0xc006);
        x.step(1);
        x.pause();
        x.step(1);
        Due.be("register(19) a step behind DI", x.register(19), 0x66);
        x.set(19, 0xc002);
        x.step(1);
        x.pause();
        Due.be("register(19) behind a prefix alone", x.register(19), 0xc003);
        x.step(1);
        Due.be("register(19) a step behind a prefix alone", x.register(19), 0xc005);
        x.step(1);
        Due.be("register(19) two steps behind a prefix alone", x.register(19), 0x66);
    }

    private static void resetForgetsEi() {
        PadConsole x = new PadConsole(0);
        Due.code(x, 0xfb);
        x.step(1);
        x.reset();
        x.pause();
        x.step(1);
        Due.be("register(19) behind EI and reset()", x.register(19), 0x66);
        PadConsole y = new PadConsole(0);
        Due.code(y, 0xfb, 0, 0);
        y.step(1);
        y.pause();
        y.save();
        y.step(2);
        Due.be("register(19) ahead of restore()", y.register(19), 0x66);
        y.restore();
        Due.be("look(12) behind restore()", y.look(12), 1);
        y.step(1);
        Due.be("register(19) behind EI and restore()", y.register(19), 0xc002);
    }

    private static void plans() {
        PadConsole x = new PadConsole(0);
        Due.idle(x);
        Due.fail("plan(-1, 0, 0)", Due.ARGUMENT, () -> x.plan(-1, 0, 0));
        Due.fail("plan(0, 2, 0)", Due.ARGUMENT, () -> x.plan(0, 2, 0));
        Due.fail("plan(0, -1, 0)", Due.ARGUMENT, () -> x.plan(0, -1, 0));
        Due.fail("plan(0, 0, 64)", Due.ARGUMENT, () -> x.plan(0, 0, 64));
        Due.fail("plan(0, 0, -1)", Due.ARGUMENT, () -> x.plan(0, 0, -1));
        Due.be("look(16)", x.look(16), 0);
        Due.be("plan(1, 0, 1)", x.plan(1, 0, 1), 1);
        Due.be("plan(1, 1, 2)", x.plan(1, 1, 2), 2);
        Due.be("plan(3, 0, 63)", x.plan(3, 0, 63), 3);
        Due.fail("plan(2, 0, 0)", Due.ARGUMENT, () -> x.plan(2, 0, 0));
        Due.be("look(16)", x.look(16), 3);
        Due.be("in(0xdc) ahead of the picture", x.in(0xdc), 255);
        x.picture(1);
        Due.be("in(0xdc) behind the first picture", x.in(0xdc), 0x7e);
        Due.be("look(16) behind the first picture", x.look(16), 1);
        x.picture(1);
        Due.be("in(0xdc) behind the second picture", x.in(0xdc), 0x7e);
        x.picture(1);
        Due.be("in(0xdc) behind the third picture", x.in(0xdc), 0x40);
        Due.be("look(16) behind the third picture", x.look(16), 0);
        Due.be("plan(0, 0, 5) of a picture that is done", x.plan(0, 0, 5), 1);
        Due.be("in(0xdc) ahead of the next picture", x.in(0xdc), 0x40);
        x.step(1);
        Due.be("look(16) ahead of the next picture", x.look(16), 1);
        x.picture(1);
        Due.be("in(0xdc) behind the next picture", x.in(0xdc), 0x7a);
    }

    private static void planOrder() {
        PadConsole x = new PadConsole(0);
        Due.idle(x);
        for (int i = 0; i < 256; i++) {
            Due.be("plan " + i, x.plan(i / 128, 0, i & 63), i + 1);
        }
        Due.fail("plan 257", Due.STATE, () -> x.plan(1, 0, 0));
        Due.fail("plan 257, of too low a number", Due.ARGUMENT, () -> x.plan(0, 0, 0));
        Due.fail("plan 257, of a wrong pad", Due.ARGUMENT, () -> x.plan(1, 3, 0));
        x.picture(1);
        Due.be("look(16)", x.look(16), 0);
        Due.be("in(0xdc), by the last of them", x.in(0xdc), 0xc0);
        for (int i = 0; i < 200; i++) {
            x.plan(2 + i / 100, 0, i & 31);
        }
        x.picture(1);
        Due.be("look(16) behind the second picture", x.look(16), 100);
        Due.be("in(0xdc) behind the second picture", x.in(0xdc), 255 - (99 & 31));
    }

    private static void stops() {
        PadConsole x = new PadConsole(0);
        Due.fail("stop(-1, true)", Due.ARGUMENT, () -> x.stop(-1, true));
        Due.fail("stop(65536, true)", Due.ARGUMENT, () -> x.stop(65536, true));
        Due.fail("stop(65536, false)", Due.ARGUMENT, () -> x.stop(65536, false));
        Due.be("stop(5, false)", x.stop(5, false), 0);
        for (int i = 0; i < 8; i++) {
            Due.be("a break point more", x.stop(i * 9000, true), i + 1);
            Due.be("the same one", x.stop(i * 9000, true), i + 1);
        }
        Due.fail("a ninth one", Due.STATE, () -> x.stop(65535, true));
        Due.fail("a ninth one that is no word", Due.ARGUMENT, () -> x.stop(65536, true));
        Due.be("one of the eight again", x.stop(9000, true), 8);
        Due.be("look(6)", x.look(6), 8);
        Due.be("one less", x.stop(9000, false), 7);
        Due.be("one less that is none", x.stop(9000, false), 7);
        Due.be("another one", x.stop(65535, true), 8);
        x.reset();
        Due.be("look(6) behind reset()", x.look(6), 8);
        Due.be("the first one less", x.stop(0, false), 7);
        for (int i = 2; i < 8; i++) {
            Due.be("one less, of the rest", x.stop(i * 9000, false), 8 - i);
        }
        Due.be("the last one less", x.stop(65535, false), 0);
    }

    private static void runsAndStops() {
        PadConsole x = new PadConsole(0);
        Due.code(x, 0, 0, 0, 0x18, 0xfb);
        x.stop(0xc000, true);
        Due.be("step(100) that begins at a break point", x.step(100), 4);
        Due.be("register(19)", x.register(19), 0xc000);
        x.stop(0xc002, true);
        Due.be("step(100) to the next one", x.step(100), 2);
        Due.be("register(19)", x.register(19), 0xc002);
        Due.be("step(1) at a break point", x.step(1), 1);
        Due.be("picture(1) to the next one", x.picture(1), 1);
        Due.be("register(19)", x.register(19), 0xc000);
        x.stop(0xc000, false);
        x.stop(0xc002, false);
        Due.be("step(100) without any", x.step(100), 100);
        Due.code(x, 0x76);
        x.stop(0xc001, true);
        Due.be("step(100) that halts at one", x.step(100), 1);
        Due.be("step(100) that halts there", x.step(100), 1);
    }

    private static void saveAndRestore() {
        PadConsole x = new PadConsole(0);
        Due.tape(x, 65536, 0);
        x.patch(0x7ff0, Due.TMR_SEGA);
        x.load();
        Due.code(x, 0x3c, 0x18, 0xfd);
        x.poke(0xfffc, 8);
        x.poke(0x8000, 21);
        x.poke(0xfffd, 3);
        Due.vram(x, 0, 1, 2);
        Due.cram(x, 1, 33);
        x.press(1, 4);
        x.line(1, false);
        x.stop(0x1234, true);
        x.plan(7, 0, 1);
        x.out(0x3f, 0xfd);
        x.out(0x7f, 0x9a);
        x.out(0xf0, 20);
        x.out(0xf1, 44);
        x.step(500);
        x.tell(0xc000);
        x.feed(3, 0, 0, 0);
        x.save();
        Due.be("look(15)", x.look(15), 1);
        long[] before = state(x);
        x.poke(0x8000, 99);
        x.poke(0xc777, 1);
        x.poke(0xfffc, 0);
        x.poke(0xfffd, 1);
        x.wipe();
        Due.vram(x, 0, 8, 9);
        Due.cram(x, 1, 9);
        Due.videoRegister(x, 1, 0x40);
        x.press(1, 0);
        x.start(true);
        x.line(1, true);
        x.stop(0x1234, false);
        x.stop(0x77, true);
        x.plan(7, 0, 1);
        x.out(0x3f, 0);
        x.out(0x7f, 0x90);
        x.out(0xf1, 1);
        x.out(0xf2, 1);
        x.pause();
        x.picture(1);
        x.hear();
        x.mix();
        x.tell(0);
        x.feed(1, 0, 0, 0);
        for (int again = 0; again < 2; again++) {
            x.restore();
            long[] then = state(x);
            for (int i = 0; i < before.length; i++) {
                Due.be("state " + i + " behind restore()", then[i], before[i]);
            }
            Due.be("look(5), the tape, which is not saved", x.look(5), 4);
            Due.be("look(18), TEXT, which is not saved", x.look(18), 3);
            Due.be("look(15) behind restore()", x.look(15), 1);
            x.step(100 + again);
        }
    }

    /** What is saved, as far as calls that change nothing tell it. */
    private static long[] state(PadConsole x) {
        long[] all = new long[120];
        int n = 0;
        for (int k = 0; k < 27; k++) {
            all[n++] = x.register(k);
        }
        for (int k = 0; k < 26; k++) {
            all[n++] = x.chip(k);
        }
        for (int k = 0; k < 19; k++) {
            all[n++] = x.sound(k);
        }
        for (int k = 0; k < 19; k++) {
            all[n++] = k == 5 || k == 18 ? 0 : x.look(k);
        }
        all[n++] = x.peek(0x8000);
        all[n++] = x.peek(0xc777);
        all[n++] = x.battery(0);
        all[n++] = x.video(0);
        all[n++] = x.chip(33);
        all[n++] = x.row(0);
        all[n++] = x.row(100);
        all[n++] = x.in(0xdc);
        all[n++] = x.in(0xdd);
        all[n++] = x.wave(20);
        all[n++] = x.wave(65);
        all[n++] = x.wave(66);
        all[n++] = x.wave(64);
        return all;
    }

    private static void savedIsNotTrace() {
        PadConsole x = new PadConsole(0);
        Due.code(x, 0, 0, 0, 0, 0);
        x.step(2);
        x.save();
        x.step(2);
        x.restore();
        Due.be("register(19) behind restore()", x.register(19), 0xc002);
        Due.be("trace(0) behind restore()", x.trace(0), 0xc003);
        Due.be("trace(3) behind restore()", x.trace(3), 0xc000);
        x.step(1);
        Due.be("trace(0) behind a step more", x.trace(0), 0xc002);
        Due.be("trace(1) behind a step more", x.trace(1), 0xc003);
    }

    private static void restoreNeedsSave() {
        PadConsole x = new PadConsole(0);
        Due.fail("restore() without save()", Due.STATE, () -> x.restore());
        x.save();
        x.restore();
        x.reset();
        x.restore();
        Due.be("load() of nothing", x.load(), 1);
        x.restore();
        Due.tape(x, 8192, 0);
        Due.be("load()", x.load(), 0);
        Due.be("look(15) behind load()", x.look(15), 0);
        Due.fail("restore() behind load()", Due.STATE, () -> x.restore());
        PadConsole y = new PadConsole(0);
        y.save();
        y.pause();
        y.poke(0xc000, 1);
        y.save();
        y.restore();
        Due.be("peek(0xc000), saved the second time", y.peek(0xc000), 1);
        Due.be("look(12), saved the second time", y.look(12), 1);
    }

    private static void trace() {
        PadConsole x = new PadConsole(0);
        Due.be("trace(0) at first", x.trace(0), -1);
        Due.be("trace(31) at first", x.trace(31), -1);
        x.set(19, 0xc000);
        x.step(3);
        Due.be("trace(0)", x.trace(0), 0xc002);
        Due.be("trace(2)", x.trace(2), 0xc000);
        Due.be("trace(3)", x.trace(3), -1);
        x.step(40);
        for (int k = 0; k < 32; k++) {
            Due.be("trace(" + k + ")", x.trace(k), 0xc02a - k);
        }
        Due.be("trace(32)", x.trace(32), -1);
        Due.be("trace(-1)", x.trace(-1), -1);
        Due.be("trace(2147483647)", x.trace(2147483647), -1);
        Due.be("trace(-2147483648)", x.trace(-2147483648), -1);
        x.pause();
        x.step(2);
        Due.be("trace(1), of the pause", x.trace(1), 0xc02b);
        Due.be("trace(0), behind the pause", x.trace(0), 0x66);
    }

    private static void look() {
        PadConsole x = new PadConsole(0);
        Due.fail("look(-1)", Due.ARGUMENT, () -> x.look(-1));
        Due.fail("look(19)", Due.ARGUMENT, () -> x.look(19));
        Due.idle(x);
        x.step(100);
        Due.be("look(0)", x.look(0), 1200);
        Due.be("look(1)", x.look(1), 100);
        Due.be("look(2)", x.look(2), 0);
        Due.be("look(3)", x.look(3), 75);
        Due.be("look(4)", x.look(4), 75);
        Due.be("look(17)", x.look(17), 14);
        x.hear();
        x.mix();
        Due.be("look(3) behind hear()", x.look(3), 74);
        Due.be("look(4) behind hear()", x.look(4), 75);
        Due.be("look(17) behind mix()", x.look(17), 13);
        x.feed(5, 0, 0, 0);
        Due.be("look(5)", x.look(5), 5);
        x.stop(1, true);
        Due.be("look(6)", x.look(6), 1);
        x.pause();
        Due.be("look(12)", x.look(12), 1);
        x.out(0x3f, 0x55);
        Due.be("look(14)", x.look(14), 0x55);
        x.save();
        Due.be("look(15)", x.look(15), 1);
        x.plan(0, 0, 0);
        Due.be("look(16)", x.look(16), 1);
        x.tell(0xc000);
        Due.be("look(18)", x.look(18), 7);
    }
}
