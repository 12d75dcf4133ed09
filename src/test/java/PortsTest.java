/** Promises 11 to 13, 24, 25: press, start, line, in, out. */
public final class PortsTest {
    private PortsTest() {
    }

    public static void main(String[] args) {
        press();
        start();
        lines();
        latch();
        handyPorts();
        lowPorts();
        numbersGoRound();
        byInstructions();
        Due.end("PortsTest");
    }

    private static void press() {
        PadConsole x = new PadConsole(0);
        Due.fail("press(-1, 0)", Due.ARGUMENT, () -> x.press(-1, 0));
        Due.fail("press(2, 0)", Due.ARGUMENT, () -> x.press(2, 0));
        Due.fail("press(0, -1)", Due.ARGUMENT, () -> x.press(0, -1));
        Due.fail("press(1, 64)", Due.ARGUMENT, () -> x.press(1, 64));
        Due.be("in(0xdc) with nothing pressed", x.in(0xdc), 255);
        Due.be("in(0xdd) with nothing pressed", x.in(0xdd), 255);
        for (int i = 0; i < 6; i++) {
            x.press(0, 1 << i);
            Due.be("in(0xc0) with button " + i, x.in(0xc0), 255 - (1 << i));
            Due.be("in(0xc1) with button " + i, x.in(0xc1), 255);
        }
        x.press(0, 0);
        for (int i = 0; i < 6; i++) {
            x.press(1, 1 << i);
            Due.be("in(0xfe) with button " + i + " of pad 1", x.in(0xfe), i < 2 ? 255 - (64 << i) : 255);
            Due.be("in(0xff) with button " + i + " of pad 1", x.in(0xff), i < 2 ? 255 : 255 - (1 << i - 2));
        }
        x.press(0, 63);
        x.press(1, 63);
        Due.be("in(0xdc) with all pressed", x.in(0xdc), 0);
        Due.be("in(0xdd) with all pressed", x.in(0xdd), 0xf0);
        for (int w = 0; w < 128; w++) {
            x.out(0x3f, w);
            int even = (w & 1) == 0 && (w & 16) != 0 ? 32 : 0;
            Due.be("in(0xdc) with W " + w, x.in(0xdc), even);
            if (w % 5 == 0) {
                int odd = (w & 4) == 0 && (w & 64) != 0 ? 8 : 0;
                int line0 = (w & 2) != 0 || (w & 32) != 0 ? 64 : 0;
                int line1 = (w & 8) != 0 ? 128 : 0;
                Due.be("in(0xdd) with W " + w, x.in(0xdd), 0x30 | odd | line0 | line1);
            }
        }
    }

    private static void start() {
        PadConsole x = new PadConsole(2);
        Due.be("in(0)", x.in(0), 192);
        x.start(true);
        Due.be("in(0) with START", x.in(0), 64);
        x.reset();
        Due.be("in(0) behind reset()", x.in(0), 64);
        x.start(false);
        Due.be("in(0) without START", x.in(0), 192);
        PadConsole y = new PadConsole(0);
        y.start(true);
        Due.be("in(0) of another console", y.in(0), 255);
    }

    private static void lines() {
        PadConsole x = new PadConsole(0);
        Due.fail("line(-1, true)", Due.ARGUMENT, () -> x.line(-1, true));
        Due.fail("line(2, false)", Due.ARGUMENT, () -> x.line(2, false));
        for (int up = 0; up < 4; up++) {
            x.line(0, (up & 1) != 0);
            x.line(1, (up & 2) != 0);
            for (int w = 0; w < 16; w++) {
                // Bits 1, 3 and 5, 7 of W by the four bits of w.
                int all = (w & 1) << 1 | (w & 2) << 2 | (w & 4) << 3 | (w & 8) << 4 | 0x55;
                x.out(0x3f, all);
                int line0 = (w & 1) == 0 ? w >> 2 & 1 : up & 1;
                int line1 = (w & 2) == 0 ? w >> 3 & 1 : up >> 1;
                Due.be("in(0xdd) with W " + all + ", lines " + up, x.in(0xdd), 0x3f | line0 << 6 | line1 << 7);
            }
        }
    }

    private static void latch() {
        PadConsole x = new PadConsole(0);
        Due.idle(x);
        Due.be("in(0x41) at first", x.in(0x41), 0);
        x.step(5);
        x.line(0, true);
        Due.be("in(0x41) with no change", x.in(0x41), 0);
        x.line(0, false);
        Due.be("in(0x41) of a line that falls", x.in(0x41), 0);
        x.line(0, true);
        Due.be("in(0x41) of a line that rises", x.in(0x41), 45);
        x.step(1);
        x.line(0, true);
        Due.be("look(13) of a line that stays", x.look(13), 45);
        x.line(1, false);
        x.step(11);
        x.line(1, true);
        Due.be("look(13), 204 beats", x.look(13), 153 + 85);
        x.out(0x3f, 0xf5 & ~0xa0);
        Due.be("look(13) of lines that fall by W", x.look(13), 238);
        x.step(3);
        Due.be("chip(21)", x.chip(21), 12);
        x.out(0x3f, 0xf5 & ~0x80);
        Due.be("look(13) of LINE 0 that rises by W", x.look(13), 9);
        x.step(1);
        x.out(0x3f, 0xf5);
        Due.be("look(13) of LINE 1 that rises by W", x.look(13), 18);
        x.line(0, false);
        x.line(1, false);
        x.step(1);
        x.line(0, true);
        x.line(1, true);
        Due.be("look(13) of lines that W tells", x.look(13), 18);
        x.out(0x3f, 0);
        x.step(1);
        x.out(0x3f, 0x0a);
        Due.be("look(13) of lines that W lets go", x.look(13), 36);
        x.out(0x3f, 0);
        x.step(1);
        x.out(0x3e, 255);
        Due.be("look(14) behind an even port", x.look(14), 0);
        x.reset();
        Due.be("look(13) behind reset()", x.look(13), 0);
    }

    private static void handyPorts() {
        PadConsole x = new PadConsole(2);
        int[] first = {127, 255, 0, 255, 0};
        for (int p = 1; p <= 5; p++) {
            Due.be("in(" + p + ") at first", x.in(p), first[p - 1]);
            x.out(p, 0x120 + p);
            Due.be("in(" + p + ")", x.in(p), 0x20 + p);
        }
        Due.be("look(14) behind the ports 1 to 5", x.look(14), 255);
        Due.be("look(13) behind the ports 1 to 5", x.look(13), 0);
        x.press(0, 0);
        Due.be("in(0xdc) behind the ports 1 to 5", x.in(0xdc), 255);
        x.out(6, 0x3c);
        Due.be("sound(18)", x.sound(18), 0x3c);
        Due.be("in(6)", x.in(6), 255);
        x.out(0, 0);
        Due.be("in(0)", x.in(0), 192);
        Due.be("in(7)", x.in(7), 255);
        Due.be("in(0x3f)", x.in(0x3f), 255);
        x.out(7, 0x77);
        Due.be("look(14) behind port 7", x.look(14), 0x77);
        x.out(8, 0x11);
        Due.be("look(14) behind port 8", x.look(14), 0x77);
        x.out(0xf2, 3);
        Due.be("wave(64) of a handy console", x.wave(64), 0);
        x.out(0xf0, 1);
        x.out(0xf1, 3);
        Due.be("wave(1) of a handy console", x.wave(1), 0);
        x.press(0, 1);
        Due.be("in(0xf2) of a handy console", x.in(0xf2), 254);
        x.reset();
        for (int p = 1; p <= 5; p++) {
            Due.be("in(" + p + ") behind reset()", x.in(p), first[p - 1]);
        }
        Due.be("sound(18) behind reset()", x.sound(18), 255);
    }

    private static void lowPorts() {
        PadConsole x = new PadConsole(0);
        for (int p = 0; p < 0x40; p++) {
            x.out(0x3f, 255);
            x.out(p, p);
            Due.be("look(14) behind out(" + p + ", " + p + ")", x.look(14), (p & 1) == 1 ? p : 255);
            Due.be("in(" + p + ")", x.in(p), 255);
        }
        Due.be("sound(18)", x.sound(18), 255);
        x.out(0xf2, 6);
        Due.be("in(0xf2)", x.in(0xf2), 2);
        x.press(0, 1);
        Due.be("in(0xf2) with a button", x.in(0xf2), 2);
        Due.be("in(0xf0) with a button", x.in(0xf0), 254);
        int[] nothing = {0xc0, 0xdc, 0xdd, 0xef, 0xf3, 0xff};
        for (int p : nothing) {
            x.out(p, 1);
        }
        Due.be("wave(64) behind others", x.wave(64), 2);
        Due.be("look(14) behind others", x.look(14), 0x3f);
    }

    private static void numbersGoRound() {
        PadConsole x = new PadConsole(0);
        x.out(0x13f, 0x1234);
        Due.be("look(14)", x.look(14), 0x34);
        x.out(-1 & ~0xc0, -1);
        Due.be("look(14)", x.look(14), 255);
        x.press(0, 2);
        Due.be("in(0x5dc)", x.in(0x5dc), 253);
        Due.be("in(-2)", x.in(-2), 253);
        for (int p = 0x40; p < 0x80; p += 9) {
            x.out(p, 0x90 + p % 16);
            Due.be("sound(9) behind port " + p, x.sound(9), p % 16);
        }
        for (int p = 0x80; p < 0xc0; p += 2) {
            x.out(p, p);
            Due.be("chip(13) behind port " + p, x.chip(13), p);
            x.out(p + 1, p);
            Due.be("chip(14) behind port " + (p + 1), x.chip(14), 1);
            x.in(p + 1);
            Due.be("chip(14) behind in(" + (p + 1) + ")", x.chip(14), 0);
        }
    }

    private static void byInstructions() {
        PadConsole x = new PadConsole(0);
        Due.code(x, 0xd3, 0x3f, 0xdb, 0xdc, 0xed, 0x41, 0xed, 0x50);
        x.set(0, 0x44);
        x.press(0, 4);
        x.step(1);
        Due.be("look(14) behind out (3f),a", x.look(14), 0x44);
        x.step(1);
        Due.be("register(0) behind in a,(dc)", x.register(0), 0xdb);
        x.set(2, 0x12);
        x.set(3, 0x3f);
        x.step(1);
        Due.be("look(14) behind out (c),b", x.look(14), 0x12);
        x.set(3, 0xdc);
        x.step(1);
        Due.be("register(4) behind in d,(c)", x.register(4), 0xfb);
    }
}
