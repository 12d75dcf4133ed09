/** The edges of PORTS and of promises 11 to 13, 24, 25 (press, start, line, in, out), sentence by sentence. */
public final class PortEdgesTest {
    private PortEdgesTest() {
    }

    public static void main(String[] args) {
        promise11LeastAndMostButtons();
        promise11TheOtherPadStays();
        promise12StartOfEachKind();
        promise13LinesAreUpAtFirst();
        promise24PortsGoRound();
        promise24WhereEachRangeBeginsAndEnds();
        promise24HandyPortsZeroToFive();
        promise24AudioAt0xf2Alone();
        promise24ReadingDoesWhatItDoes();
        promise25ValuesAndPortsGoRound();
        promise25WhereEachRangeBeginsAndEnds();
        promise25OddOnesAreW();
        promise25HandyPortsOneToSix();
        promise25WavesAt0xf0To0xf2();
        promise25OthersDoNothing();
        eachBitOfW();
        linesThatRise();
        theLatchIsTheCountOfNow();
        Due.end("PortEdgesTest");
    }

    /** "buttons are not 0 .. 63": 0 and 63 are. */
    private static void promise11LeastAndMostButtons() {
        for (int kind = 0; kind < 3; kind++) {
            PadConsole x = new PadConsole(kind);
            x.press(0, 63);
            Due.be("in(0xdc) with all of pad 0", x.in(0xdc), 0xc0);
            Due.be("in(0xdd) with all of pad 0", x.in(0xdd), 0xff);
            x.press(1, 63);
            Due.be("in(0xdc) with all of both", x.in(0xdc), 0);
            Due.be("in(0xdd) with all of both", x.in(0xdd), 0xf0);
            x.press(0, 0);
            Due.be("in(0xdc) with all of pad 1", x.in(0xdc), 0x3f);
            x.press(1, 0);
            Due.be("in(0xdc) with none", x.in(0xdc), 255);
            Due.be("in(0xdd) with none", x.in(0xdd), 255);
        }
    }

    /** press tells all buttons of one pad: those that were pressed before are not any more. */
    private static void promise11TheOtherPadStays() {
        PadConsole x = new PadConsole(0);
        x.press(0, 5);
        x.press(1, 1);
        x.press(0, 10);
        Due.be("in(0xdc)", x.in(0xdc), 255 - 10 - 64);
        x.press(1, 2);
        Due.be("in(0xdc)", x.in(0xdc), 255 - 10 - 128);
        Due.fail("press(0, 64)", Due.ARGUMENT, () -> x.press(0, 64));
        Due.fail("press(2, 1)", Due.ARGUMENT, () -> x.press(2, 1));
        Due.fail("press(-1, 64)", Due.ARGUMENT, () -> x.press(-1, 64));
        Due.be("in(0xdc) behind refused ones", x.in(0xdc), 255 - 10 - 128);
    }

    /** "START is pressed, or not (at first)." Only a handy console reads it. */
    private static void promise12StartOfEachKind() {
        int[] first = {255, 255, 192};
        int[] then = {255, 255, 64};
        for (int kind = 0; kind < 3; kind++) {
            PadConsole x = new PadConsole(kind);
            Due.be("in(0) at first", x.in(0), first[kind]);
            x.start(true);
            x.start(true);
            Due.be("in(0) with START", x.in(0), then[kind]);
            x.save();
            x.start(false);
            Due.be("in(0) without START", x.in(0), first[kind]);
            x.restore();
            Due.be("in(0) behind restore()", x.in(0), then[kind]);
            Due.be("look(12), which START leaves alone", x.look(12), 0);
        }
    }

    /** "What LINE k is, when it is not told by W: 1 at first." */
    private static void promise13LinesAreUpAtFirst() {
        PadConsole x = new PadConsole(0);
        Due.be("in(0xdd) at first", x.in(0xdd), 255);
        x.line(0, false);
        Due.be("in(0xdd) with LINE 0 0", x.in(0xdd), 255 - 64);
        x.line(1, false);
        Due.be("in(0xdd) with both 0", x.in(0xdd), 63);
        x.line(0, true);
        Due.be("in(0xdd) with LINE 1 0", x.in(0xdd), 127);
        x.reset();
        Due.be("in(0xdd) behind reset()", x.in(0xdd), 127);
        x.save();
        x.line(1, true);
        x.restore();
        Due.be("in(0xdd) behind restore()", x.in(0xdd), 127);
        Due.be("look(13) behind restore()", x.look(13), 0);
    }

    /** "What the processor would read at a port (its lowest 8 bits) now". */
    private static void promise24PortsGoRound() {
        PadConsole x = new PadConsole(0);
        x.press(0, 1);
        x.line(1, false);
        int[] even = {0xc0, 0x1c0, -0x40, 0xfe, 0xffffff00 | 0xdc, Integer.MIN_VALUE + 0xc0, Integer.MAX_VALUE - 1};
        for (int p : even) {
            Due.be("in(" + p + ")", x.in(p), 254);
        }
        int[] odd = {0xc1, 0x1ff, -1, Integer.MAX_VALUE};
        for (int p : odd) {
            Due.be("in(" + p + ")", x.in(p), 127);
        }
        int[] none = {0, 256, -256, Integer.MIN_VALUE};
        for (int p : none) {
            Due.be("in(" + p + ")", x.in(p), 255);
        }
    }

    /** 0 .. 0x3f, 0x40 .. 0x7f, 0x80 .. 0xbf, 0xc0 .. 0xff, even and odd. */
    private static void promise24WhereEachRangeBeginsAndEnds() {
        PadConsole x = new PadConsole(0);
        Due.idle(x);
        // LINE 7, BEAT 12; H LATCH 9 by that; BUFFER 0x77; pad 0 has its first button pressed.
        x.step(19 * 7 + 1);
        x.line(0, false);
        x.line(0, true);
        x.press(0, 1);
        Due.vram(x, 0, 0x77, 0x77, 0x77, 0x77, 0x77, 0x77, 0x77, 0x77);
        for (int p = 0; p < 256; p++) {
            boolean even = p % 2 == 0;
            int due = p < 0x40 ? 255 : p < 0x80 ? even ? 7 : 9 : p >= 0xc0 ? p == 0xf2 ? 0 : even ? 254 : 255 : -1;
            if (due >= 0) {
                Due.be("in(" + p + ")", x.in(p), due);
            }
        }
        int[] data = {0x80, 0x82, 0xbc, 0xbe};
        for (int p : data) {
            PadConsole y = new PadConsole(0);
            Due.vram(y, 5, 0x21, 0x22);
            y.out(0xbf, 5);
            y.out(0xbf, 0);
            Due.be("in(" + p + ")", y.in(p), 0x21);
            Due.be("in(" + p + ") again", y.in(p), 0x22);
        }
        int[] status = {0x81, 0x83, 0xbd, 0xbf};
        for (int p : status) {
            PadConsole y = new PadConsole(0);
            Due.idle(y);
            y.step(19 * 193);
            Due.be("in(" + p + ")", y.in(p), 128);
            Due.be("in(" + p + ") again", y.in(p), 0);
        }
    }

    /** "of a handy console 0: 64, and 128 if START is not pressed; 1 .. 5 what was written there; all others 255." */
    private static void promise24HandyPortsZeroToFive() {
        PadConsole x = new PadConsole(2);
        int[] first = {192, 127, 255, 0, 255, 0};
        for (int p = 0; p < 0x40; p++) {
            Due.be("in(" + p + ") at first", x.in(p), p < 6 ? first[p] : 255);
        }
        for (int p = 0; p < 0x40; p++) {
            x.out(p, 0x40 + p);
        }
        for (int p = 0; p < 0x40; p++) {
            Due.be("in(" + p + ") behind writing", x.in(p), p == 0 ? 192 : p < 6 ? 0x40 + p : 255);
        }
        x.save();
        x.out(3, 9);
        x.restore();
        Due.be("in(3) behind restore()", x.in(3), 0x43);
        x.reset();
        for (int p = 0; p < 6; p++) {
            Due.be("in(" + p + ") behind reset()", x.in(p), first[p]);
        }
        Due.be("in(256 + 5)", x.in(261), 0);
    }

    /** "but at 0xf2, not of a handy console, AUDIO" (v modulo 4). */
    private static void promise24AudioAt0xf2Alone() {
        for (int kind = 0; kind < 3; kind++) {
            PadConsole x = new PadConsole(kind);
            x.press(0, 2);
            for (int v = 0; v < 6; v++) {
                x.out(0xf2, v);
                Due.be("in(0xf2) of kind " + kind, x.in(0xf2), kind == 2 ? 253 : v % 4);
                Due.be("wave(64) of kind " + kind, x.wave(64), kind == 2 ? 0 : v % 4);
            }
            int[] pads = {0xf0, 0xf4, 0xd2, 0xe2};
            for (int p : pads) {
                Due.be("in(" + p + ")", x.in(p), 253);
            }
            Due.be("in(0xf1)", x.in(0xf1), 255);
            Due.be("in(0xf3)", x.in(0xf3), 255);
        }
    }

    /** "with all that this does": STATUS and DATA change the chip, the others nothing. */
    private static void promise24ReadingDoesWhatItDoes() {
        PadConsole x = Due.busy(0);
        int[] still = {0, 0x3f, 0x40, 0x41, 0x7e, 0x7f, 0xc0, 0xc1, 0xf2, 0xfe, 0xff};
        for (int p : still) {
            x.in(p);
        }
        Due.same("behind reading ports that do nothing", x, Due.busy(0));
        PadConsole y = new PadConsole(0);
        Due.idle(y);
        y.step(19 * 193);
        y.out(0xbf, 3);
        Due.be("chip(16)", y.chip(16), 1);
        y.in(0x1bf);
        Due.be("chip(14), FIRST", y.chip(14), 0);
        Due.be("chip(15), STATUS", y.chip(15), 0);
        Due.be("chip(16), LINE ASKS", y.chip(16), 0);
        Due.be("chip(11), ADDRESS, which stays", y.chip(11), 3);
        y.out(0xbf, 4);
        y.in(-0x42);
        Due.be("chip(14) behind DATA", y.chip(14), 0);
        Due.be("chip(11) behind DATA", y.chip(11), 5);
    }

    /** "As the processor writes v (its lowest 8 bits) to a port." */
    private static void promise25ValuesAndPortsGoRound() {
        PadConsole x = new PadConsole(0);
        int[] ports = {0x3f, 0x13f, -0xc1, 1, 257, -255, Integer.MIN_VALUE + 1, 0x7fffff3f};
        int[] values = {0, 255, 256, 257, -1, -256, Integer.MAX_VALUE, Integer.MIN_VALUE};
        for (int p : ports) {
            for (int v : values) {
                x.out(p, v);
                Due.be("look(14) behind out(" + p + ", " + v + ")", x.look(14), v & 255);
            }
        }
        x.out(0xf2, 0x102);
        Due.be("wave(64) behind out(0xf2, 0x102)", x.wave(64), 2);
        x.out(0x17f, -1);
        Due.be("sound(17) behind out(0x17f, -1)", x.sound(17), 7);
        x.out(0x2be, -2);
        Due.be("chip(13) behind out(0x2be, -2)", x.chip(13), 254);
    }

    private static void promise25WhereEachRangeBeginsAndEnds() {
        for (int p = 0; p < 256; p++) {
            PadConsole x = new PadConsole(1);
            x.out(p, 0x95);
            boolean even = p % 2 == 0;
            Due.be("look(14) behind port " + p, x.look(14), p < 0x40 && !even ? 0x95 : 255);
            Due.be("sound(9) behind port " + p, x.sound(9), p >= 0x40 && p < 0x80 ? 5 : 15);
            Due.be("chip(13) behind port " + p, x.chip(13), p >= 0x80 && p < 0xc0 && even ? 0x95 : 0);
            Due.be("chip(14) behind port " + p, x.chip(14), p >= 0x80 && p < 0xc0 && !even ? 1 : 0);
            Due.be("wave(0) behind port " + p, x.wave(0), p == 0xf1 ? 0x95 : 0);
            Due.be("wave(64) behind port " + p, x.wave(64), p == 0xf2 ? 1 : 0);
            x.out(0xf1, 3);
            Due.be("wave(0x15) behind port " + p, x.wave(0x15), p == 0xf0 ? 3 : 0);
            Due.be("sound(18) behind port " + p, x.sound(18), 255);
        }
    }

    /** "all other odd ones (of a handy console, too): W (255 at first)". */
    private static void promise25OddOnesAreW() {
        for (int kind = 0; kind < 3; kind += 2) {
            for (int p = 0; p < 0x42; p++) {
                PadConsole x = new PadConsole(kind);
                Due.be("look(14) at first", x.look(14), 255);
                x.out(p, 0x5a);
                boolean w = p % 2 == 1 && p < 0x40 && (kind == 0 || p > 5);
                Due.be("look(14) behind port " + p + " of kind " + kind, x.look(14), w ? 0x5a : 255);
            }
        }
    }

    /** "of a handy console 1 .. 5: kept, 6: STEREO". */
    private static void promise25HandyPortsOneToSix() {
        for (int p = 0; p < 9; p++) {
            PadConsole x = new PadConsole(2);
            x.out(p, 0x5a);
            Due.be("sound(18) behind port " + p, x.sound(18), p == 6 ? 0x5a : 255);
            for (int q = 1; q < 6; q++) {
                int first = q == 1 ? 127 : q % 2 == 0 ? 255 : 0;
                Due.be("in(" + q + ") behind port " + p, x.in(q), q == p ? 0x5a : first);
            }
            PadConsole y = new PadConsole(0);
            y.out(p, 0x5a);
            Due.be("sound(18) behind port " + p + " of another console", y.sound(18), 255);
        }
    }

    /** "0xf0 .. 0xf2, not of a handy console: WAVES": the number modulo 64. */
    private static void promise25WavesAt0xf0To0xf2() {
        PadConsole x = new PadConsole(0);
        int[] numbers = {0, 63, 64, 127, 128, 255};
        int v = 1;
        for (int n : numbers) {
            x.out(0xf0, n);
            x.out(0xf1, v);
            Due.be("wave(" + n % 64 + ")", x.wave(n % 64), v);
            v++;
        }
        x.out(0xef, 5);
        x.out(0xf1, 99);
        Due.be("wave(63), not wave(5)", x.wave(63), 99);
        Due.be("wave(5)", x.wave(5), 0);
        PadConsole handy = new PadConsole(2);
        handy.out(0xf0, 5);
        handy.out(0xf1, 5);
        handy.out(0xf2, 1);
        for (int k = 0; k < 65; k++) {
            Due.be("wave(" + k + ") of a handy console", handy.wave(k), 0);
        }
    }

    /** "Others: nothing." */
    private static void promise25OthersDoNothing() {
        PadConsole x = Due.busy(0);
        int[] others = {0, 2, 4, 6, 0x3e, 0xc0, 0xc1, 0xdc, 0xdd, 0xde, 0xee, 0xef, 0xf3, 0xf4, 0xfe, 0xff};
        for (int p : others) {
            x.out(p, 0xaa);
        }
        Due.same("behind ports that do nothing", x, Due.busy(0));
        PadConsole handy = Due.busy(2);
        int[] more = {0, 8, 0x3e, 0xc0, 0xdd, 0xf0, 0xf1, 0xf2, 0xff};
        for (int p : more) {
            handy.out(p, 0xaa);
        }
        Due.same("a handy one behind ports that do nothing", handy, Due.busy(2));
    }

    /** Each of W's 256 values, with the lines up and not. */
    private static void eachBitOfW() {
        for (int up = 0; up < 4; up++) {
            for (int half = 0; half < 2; half++) {
                PadConsole x = new PadConsole(0);
                x.press(0, up == 1 ? 63 : 0);
                x.press(1, up == 2 ? 63 : 0);
                x.line(0, up % 2 == 1);
                x.line(1, up / 2 == 1);
                for (int w = 128 * half; w < 128 * half + 128; w++) {
                    x.out(0x3f, w);
                    int even = (up == 1 ? 0 : 63) | (up == 2 ? 0 : 192);
                    int odd = 0x30 | (up == 2 ? 0 : 15);
                    if ((w & 1) == 0) {
                        even = even & ~32 | (w >> 4 & 1) << 5;
                    }
                    if ((w & 4) == 0) {
                        odd = odd & ~8 | (w >> 6 & 1) << 3;
                    }
                    odd |= ((w & 2) == 0 ? w >> 5 & 1 : up % 2) << 6;
                    odd |= ((w & 8) == 0 ? w >> 7 & 1 : up / 2) << 7;
                    Due.be("in(0xdc) with W " + w, x.in(0xdc), even);
                    Due.be("in(0xdd) with W " + w, x.in(0xdd), odd);
                }
            }
        }
    }

    /** "When LINE 0 or 1 becomes 1, that was 0 (by W or line()), H LATCH becomes the H COUNT of now." */
    private static void linesThatRise() {
        // W ahead, W then, whether it rises; with the lines 0 and 1 as line() says in the last two columns.
        int[][] cases = {
            {0x00, 0x20, 1, 1, 1}, {0x00, 0x80, 1, 1, 1}, {0x00, 0x10, 0, 1, 1}, {0x00, 0x40, 0, 1, 1},
            {0x20, 0x00, 0, 1, 1}, {0xa0, 0xa0, 0, 1, 1}, {0x20, 0x80, 1, 1, 1}, {0x80, 0x20, 1, 1, 1},
            {0x00, 0x02, 1, 1, 1}, {0x00, 0x08, 1, 1, 1}, {0x00, 0x02, 0, 0, 1}, {0x00, 0x08, 0, 1, 0},
            {0x0a, 0x20, 1, 0, 0}, {0x0a, 0x80, 1, 0, 0}, {0x0a, 0xa0, 0, 1, 1}, {0x0a, 0x00, 0, 1, 1},
            {0x0a, 0x2a, 0, 0, 0}, {0x0a, 0x8a, 0, 0, 0}, {0x05, 0x00, 0, 1, 1}, {0xff, 0xff, 0, 0, 0},
        };
        for (int i = 0; i < cases.length; i++) {
            int[] c = cases[i];
            PadConsole x = new PadConsole(0);
            Due.idle(x);
            x.line(0, c[3] == 1);
            x.line(1, c[4] == 1);
            x.out(0x3f, c[0]);
            x.step(3);
            long before = x.look(13);
            x.out(0x3f, c[1]);
            Due.be("look(13) of case " + i, x.look(13), c[2] == 1 ? 27 : before);
        }
        for (int k = 0; k < 2; k++) {
            PadConsole x = new PadConsole(0);
            Due.idle(x);
            x.step(3);
            x.line(k, true);
            Due.be("look(13) of a line that was 1", x.look(13), 0);
            x.line(k, false);
            Due.be("look(13) of a line that becomes 0", x.look(13), 0);
            x.line(k, false);
            x.line(k, true);
            Due.be("look(13) of a line that becomes 1", x.look(13), 27);
            x.step(1);
            x.line(k, true);
            Due.be("look(13) of a line that was 1 already", x.look(13), 27);
            // W tells both lines: what line() says does not count.
            x.out(0x3f, 0xf5);
            x.line(k, false);
            x.step(1);
            x.line(k, true);
            Due.be("look(13) of a line that W tells", x.look(13), 27);
        }
    }

    /** "with t = BEAT * 3 / 4: t, from 0x94 on t + 0x55". */
    private static void theLatchIsTheCountOfNow() {
        // Steps of 4, 5, 6, 7 beats come to each of these beats.
        int[] beats = {0, 4, 5, 6, 7, 196, 197, 198, 199, 224, 225, 226, 227};
        int[] due = {0, 3, 3, 4, 5, 147, 147, 148 + 85, 149 + 85, 168 + 85, 168 + 85, 169 + 85, 255};
        for (int i = 0; i < beats.length; i++) {
            PadConsole x = new PadConsole(0);
            come(x, beats[i]);
            Due.be("chip(21)", x.chip(21), beats[i]);
            Due.be("chip(24), " + beats[i] + " beats", x.chip(24), due[i]);
            x.line(1, false);
            x.line(1, true);
            Due.be("in(0x7f), " + beats[i] + " beats", x.in(0x7f), due[i]);
            Due.be("look(13), " + beats[i] + " beats", x.look(13), due[i]);
            Due.be("in(0x41), " + beats[i] + " beats", x.in(0x41), due[i]);
        }
    }

    /** Steps of 4 beats, and the last one of 5, 6 or 7, as it takes: ret nz that does not, inc bc, ld a,n. */
    private static void come(PadConsole x, int beats) {
        int rest = beats % 4;
        int four = rest == 0 ? beats / 4 : beats / 4 - 1;
        x.set(1, 64);
        x.set(19, 0xc000);
        if (four > 0) {
            x.step(four);
        }
        if (rest > 0) {
            x.poke(0xc000, rest == 1 ? 0xc0 : rest == 2 ? 0x03 : 0x3e);
            x.set(19, 0xc000);
            x.step(1);
        }
    }
}
