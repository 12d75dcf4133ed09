/** The edges of VIDEO but for its drawing, and of promises 28, 29 (video, chip), sentence by sentence. */
public final class VideoEdgesTest {
    private VideoEdgesTest() {
    }

    public static void main(String[] args) {
        promise28PlacesGoRound();
        promise29AllAtFirst();
        theSecondControlByte();
        registersZeroToTen();
        addressGoesRound();
        firstIsForgotten();
        codesAndWhereTheyWrite();
        cramGoesRound();
        handyCramGoesRound();
        whenItAsks();
        modesByOtherBits();
        aLineHas228Beats();
        theLastLine();
        linesUpToHeightCount();
        countersOfZeroAndMost();
        framesBehindHeight();
        heightThatChanges();
        countsOfLines();
        scrollAtThePicturesEnd();
        Due.end("VideoEdgesTest");
    }

    /** "Eight bytes of VRAM from a place on (modulo 16384), lowest first." */
    private static void promise28PlacesGoRound() {
        PadConsole x = new PadConsole(0);
        Due.be("video(0) at first", x.video(0), 0);
        Due.vram(x, 0x3ffc, 1, 2, 3, 4, 5, 6, 7, 0xf8);
        int[] same = {0x3ffc, 0x7ffc, -4, 0x3ffc - 0x8000, Integer.MAX_VALUE - 3};
        for (int place : same) {
            Due.be("video(" + place + ")", x.video(place), 0xf807060504030201L);
        }
        int[] zero = {0, 16384, -16384, Integer.MIN_VALUE, 0x10000};
        for (int place : zero) {
            Due.be("video(" + place + ")", x.video(place), 0xf8070605L);
        }
        Due.be("video(16383)", x.video(16383), 0xf807060504L);
        Due.be("video(-1)", x.video(-1), 0xf807060504L);
        Due.be("video(3)", x.video(3), 0xf8);
        Due.be("video(4)", x.video(4), 0);
        Due.be("video(0x3ff5)", x.video(0x3ff5), 0x0100000000000000L);
        Due.be("chip(11), which video leaves alone", x.chip(11), 4);
    }

    /** 0 .. 25 and 32 .. 95: "All 0 at first", HEIGHT 192. */
    private static void promise29AllAtFirst() {
        for (int kind = 0; kind < 3; kind++) {
            PadConsole x = new PadConsole(kind);
            for (int what = -1; what < 97; what++) {
                int k = what;
                if (k >= 0 && k <= 25 || k >= 32 && k <= 95) {
                    Due.be("chip(" + k + ") at first", x.chip(k), k == 23 ? 192 : 0);
                } else {
                    Due.fail("chip(" + k + ")", Due.ARGUMENT, () -> x.chip(k));
                }
            }
        }
    }

    /** "ADDRESS's upper six bits are the low six of v, CODE v / 64". */
    private static void theSecondControlByte() {
        for (int v = 0; v < 256; v += 17) {
            PadConsole x = new PadConsole(0);
            x.out(0xbf, 0xa5);
            Due.be("chip(11) behind the first byte", x.chip(11), 0xa5);
            Due.be("chip(12) behind the first byte", x.chip(12), 0);
            x.out(0xbf, v);
            Due.be("chip(11) behind " + v, x.chip(11), v % 64 * 256 + 0xa5 + (v < 64 ? 1 : 0));
            Due.be("chip(12) behind " + v, x.chip(12), v / 64);
            Due.be("chip(14) behind " + v, x.chip(14), 0);
            x.out(0xbf, 0x11);
            Due.be("chip(11), its low byte alone", x.chip(11), v % 64 * 256 + 0x11);
            Due.be("chip(12), which stays", x.chip(12), v / 64);
        }
    }

    /** "code 2: register v modulo 16, if that is 10 or less, is ADDRESS's low byte". */
    private static void registersZeroToTen() {
        for (int v = 0x80; v < 0xc0; v++) {
            PadConsole x = new PadConsole(0);
            x.out(0xbf, 0xee);
            x.out(0xbf, v);
            for (int k = 0; k <= 10; k++) {
                Due.be("chip(" + k + ") behind " + v, x.chip(k), v % 16 == k ? 0xee : 0);
            }
            Due.be("chip(11) behind " + v, x.chip(11), v % 64 * 256 + 0xee);
            Due.be("chip(13) behind " + v, x.chip(13), 0);
        }
        int[] others = {0x40, 0x4a, 0x0a, 0x00, 0xc0, 0xca};
        for (int v : others) {
            PadConsole x = new PadConsole(0);
            x.out(0xbf, 0xee);
            x.out(0xbf, v);
            for (int k = 0; k <= 10; k++) {
                Due.be("chip(" + k + ") behind another code", x.chip(k), 0);
            }
        }
    }

    /** "which grows by 1 (modulo 16384, here and below)". */
    private static void addressGoesRound() {
        PadConsole x = new PadConsole(0);
        Due.vram(x, 0, 0x10, 0x11);
        Due.vram(x, 0x3ffe, 0x20, 0x21);
        Due.be("chip(11) behind DATA at 0x3fff", x.chip(11), 0);
        x.out(0xbe, 0x12);
        Due.be("video(0) behind one more", x.video(0) & 0xffff, 0x1112);
        x.out(0xbf, 0xff);
        x.out(0xbf, 0x3f);
        Due.be("chip(13), read at 0x3fff", x.chip(13), 0x21);
        Due.be("chip(11), code 0 at 0x3fff", x.chip(11), 0);
        Due.be("in(0xbe)", x.in(0xbe), 0x21);
        Due.be("chip(13), read at 0", x.chip(13), 0x12);
        Due.be("chip(11)", x.chip(11), 1);
        x.out(0xbf, 0xff);
        x.out(0xbf, 0x7f);
        Due.be("chip(11), code 1 does not grow", x.chip(11), 0x3fff);
        Due.be("in(0xbe), what was in BUFFER", x.in(0xbe), 0x12);
        Due.be("chip(13), read at 0x3fff", x.chip(13), 0x21);
        Due.be("chip(11), DATA read at 0x3fff", x.chip(11), 0);
        x.out(0xbf, 0xff);
        x.out(0xbf, 0xff);
        x.out(0xbe, 0x33);
        Due.be("chip(11), CRAM written at 0x3fff", x.chip(11), 0);
        Due.be("chip(63), CRAM at 0x3fff modulo 32", x.chip(63), 0x33);
        Due.be("video(0x3fff), which code 3 leaves alone", x.video(0x3fff) & 255, 0x21);
    }

    /** "STATUS read: FIRST is 0", "DATA read: FIRST is 0", "DATA v: FIRST is 0". */
    private static void firstIsForgotten() {
        for (int way = 0; way < 4; way++) {
            PadConsole x = new PadConsole(0);
            x.out(0xbf, 0x12);
            Due.be("chip(14) behind a first byte", x.chip(14), 1);
            if (way == 0) {
                x.in(0xbf);
            } else if (way == 1) {
                x.in(0xbe);
            } else if (way == 2) {
                x.out(0xbe, 7);
            } else {
                x.reset();
            }
            Due.be("chip(14) behind way " + way, x.chip(14), 0);
            x.out(0xbf, 0x81);
            Due.be("chip(14), a first byte again", x.chip(14), 1);
            Due.be("chip(1), which is not written", x.chip(1), 0);
            Due.be("chip(11)", x.chip(11) & 255, 0x81);
        }
    }

    /** "code 3: CRAM, else VRAM at ADDRESS is v"; BUFFER is v with all. */
    private static void codesAndWhereTheyWrite() {
        for (int code = 0; code < 4; code++) {
            PadConsole x = new PadConsole(0);
            x.out(0xbf, 3);
            x.out(0xbf, code * 64 + 15);
            int at = code == 0 ? 0xf04 : 0xf03;
            x.out(0xbe, 0x5c);
            Due.be("chip(13) with code " + code, x.chip(13), 0x5c);
            Due.be("video with code " + code, x.video(at) & 255, code == 3 ? 0 : 0x5c);
            Due.be("chip(35) with code " + code, x.chip(35), code == 3 ? 0x5c : 0);
            Due.be("chip(11) with code " + code, x.chip(11), at + 1);
            Due.be("in(0xbe), BUFFER, with code " + code, x.in(0xbe), 0x5c);
            Due.be("chip(13), read from VRAM with code " + code, x.chip(13), 0);
        }
    }

    /** "CRAM at a: a modulo 32". */
    private static void cramGoesRound() {
        int[] addresses = {0, 31, 32, 33, 63, 64, 255};
        for (int kind = 0; kind < 2; kind++) {
            for (int a : addresses) {
                PadConsole x = new PadConsole(kind);
                Due.cram(x, a, 0xff);
                for (int k = 0; k < 64; k++) {
                    Due.be("chip(" + (32 + k) + ") behind CRAM " + a, x.chip(32 + k), k == a % 32 ? 255 : 0);
                }
            }
        }
        PadConsole x = new PadConsole(0);
        int[] all = new int[33];
        for (int i = 0; i < 33; i++) {
            all[i] = i + 1;
        }
        Due.cram(x, 0, all);
        for (int k = 0; k < 32; k++) {
            Due.be("chip(" + (32 + k) + ")", x.chip(32 + k), k == 0 ? 33 : k + 1);
        }
    }

    /** "of a handy console modulo 64: an even one is kept aside alone, an odd one puts both there". */
    private static void handyCramGoesRound() {
        int[] addresses = {0, 30, 32, 62, 64, 126, 254};
        for (int a : addresses) {
            PadConsole x = new PadConsole(2);
            Due.cram(x, a, 0x21);
            for (int k = 32; k < 96; k++) {
                Due.be("chip(" + k + ") behind an even one", x.chip(k), 0);
            }
            x.out(0xbe, 0x43);
            for (int k = 0; k < 64; k++) {
                int due = k == a % 64 ? 0x21 : k == a % 64 + 1 ? 0x43 : 0;
                Due.be("chip(" + (32 + k) + ") behind both at " + a, x.chip(32 + k), due);
            }
        }
        // An odd one by itself: the one kept aside is 0 at first, and stays.
        PadConsole y = new PadConsole(2);
        Due.cram(y, 63, 0x55);
        Due.be("chip(94), 0 at first", y.chip(94), 0);
        Due.be("chip(95)", y.chip(95), 0x55);
        Due.cram(y, 10, 0x66);
        Due.cram(y, 1, 0x77);
        Due.be("chip(32), what was kept aside for another", y.chip(32), 0x66);
        Due.be("chip(33)", y.chip(33), 0x77);
        Due.be("chip(42), for which it was kept", y.chip(42), 0);
        y.save();
        Due.cram(y, 10, 0x11);
        y.restore();
        Due.cram(y, 3, 0x78);
        Due.be("chip(34), kept aside over restore()", y.chip(34), 0x66);
        Due.be("chip(13), BUFFER", y.chip(13), 0x78);
    }

    /** "It ASKS if bit 5 of register 1 and FRAME are 1, or bit 4 of register 0 and LINE ASKS." */
    private static void whenItAsks() {
        for (int lineAsks = 0; lineAsks < 2; lineAsks++) {
            for (int frame = 0; frame < 2; frame++) {
                PadConsole x = new PadConsole(0);
                Due.idle(x);
                // LINE ASKS comes with line 0, and then not for 255 lines; FRAME comes with line 193.
                Due.videoRegister(x, 10, 255);
                if (frame == 1 || lineAsks == 1) {
                    x.step(19);
                }
                if (lineAsks == 0) {
                    x.in(0xbf);
                }
                if (frame == 1) {
                    x.step(19 * 192);
                }
                Due.be("chip(16)", x.chip(16), lineAsks);
                Due.be("chip(15)", x.chip(15), 128 * frame);
                for (int bits = 0; bits < 4; bits++) {
                    Due.videoRegister(x, 0, (bits & 1) != 0 ? 0x10 : 0xeb);
                    Due.videoRegister(x, 1, (bits & 2) != 0 ? 0x20 : 0xdf);
                    boolean due = (bits & 1) != 0 && lineAsks == 1 || (bits & 2) != 0 && frame == 1;
                    Due.be("chip(17) with " + lineAsks + ", " + frame + ", " + bits, x.chip(17), due ? 1 : 0);
                }
                x.in(0xbf);
                Due.be("chip(17) behind STATUS", x.chip(17), 0);
            }
        }
    }

    /** MODE and HEIGHT by their four bits alone. */
    private static void modesByOtherBits() {
        PadConsole x = new PadConsole(0);
        for (int k = 0; k < 16; k++) {
            Due.videoRegister(x, 0, 0xf9 | (k & 1) << 1 | (k & 2) << 1);
            Due.videoRegister(x, 1, 0xe7 | (k & 12) << 1);
            boolean four = (k & 2) != 0;
            int mode = four ? 4 : k >= 8 ? 1 : k >= 4 ? 3 : k % 2 == 1 ? 2 : 0;
            int height = k == 11 ? 224 : k == 7 ? 240 : 192;
            Due.be("chip(22) of " + k, x.chip(22), mode);
            Due.be("chip(23) of " + k, x.chip(23), height);
        }
    }

    /** Comes to a number of beats, by steps of 4 and at last one of 5, 6 or 7. */
    private static void come(PadConsole x, int beats) {
        int rest = beats % 4;
        x.set(1, 64);
        x.set(19, 0xc100);
        x.step(rest == 0 ? beats / 4 : beats / 4 - 1);
        if (rest > 0) {
            x.poke(0xc000, rest == 1 ? 0xc0 : rest == 2 ? 0x03 : 0x3e);
            x.set(19, 0xc000);
            x.step(1);
        }
        Due.be("look(0)", x.look(0), beats);
    }

    /** "BEAT grows by its beats; from 228 on it is 228 less, and the LINE ENDS". */
    private static void aLineHas228Beats() {
        int[] beats = {224, 225, 226, 227, 228, 229, 230, 231, 455, 456, 457};
        for (int b : beats) {
            PadConsole x = new PadConsole(0);
            come(x, b);
            Due.be("chip(20), " + b + " beats", x.chip(20), b / 228);
            Due.be("chip(21), " + b + " beats", x.chip(21), b % 228);
            Due.be("chip(16), " + b + " beats", x.chip(16), b >= 228 ? 1 : 0);
        }
        // The longest step, 23 beats, from 227 on: inc (ix+00).
        PadConsole x = new PadConsole(0);
        come(x, 227);
        Due.code(x, 0xdd, 0x34, 0x00);
        x.step(1);
        Due.be("chip(20), 250 beats", x.chip(20), 1);
        Due.be("chip(21), 250 beats", x.chip(21), 22);
    }

    /** "Then LINE is 1 more, behind the last one (261, 312) 0: .. one more PICTURE is done." */
    private static void theLastLine() {
        for (int kind = 0; kind < 3; kind++) {
            int last = kind == 1 ? 312 : 261;
            PadConsole x = new PadConsole(kind);
            Due.idle(x);
            x.step(19 * last);
            Due.be("chip(20), the last line", x.chip(20), last);
            x.step(18);
            Due.be("chip(20), its last step", x.chip(20), last);
            Due.be("chip(21), its last step", x.chip(21), 216);
            Due.be("look(2)", x.look(2), 0);
            x.step(1);
            Due.be("chip(20) behind the last line", x.chip(20), 0);
            Due.be("chip(21) behind the last line", x.chip(21), 0);
            Due.be("look(2) behind the last line", x.look(2), 1);
        }
    }

    private static void height(PadConsole x, int height) {
        Due.videoRegister(x, 0, 6);
        Due.videoRegister(x, 1, height == 224 ? 0x10 : height == 240 ? 8 : 0);
        Due.be("chip(23)", x.chip(23), height);
    }

    /** "If it is not above HEIGHT: COUNTER is 1 less .. If it is above HEIGHT: COUNTER is register 10." */
    private static void linesUpToHeightCount() {
        int[] heights = {192, 224, 240};
        for (int h : heights) {
            for (int kind = 0; kind < 2; kind++) {
                PadConsole x = new PadConsole(kind);
                Due.idle(x);
                height(x, h);
                Due.videoRegister(x, 10, 255);
                x.step(19);
                Due.be("chip(18) behind line 0", x.chip(18), 255);
                x.in(0xbf);
                x.step(19 * (h - 1));
                Due.be("chip(20)", x.chip(20), h);
                Due.be("chip(18) at line " + h, x.chip(18), 255 - (h - 1));
                x.step(19);
                Due.be("chip(18) behind line " + h, x.chip(18), 255 - h);
                Due.be("chip(16) behind line " + h, x.chip(16), 0);
                Due.videoRegister(x, 10, 77);
                Due.be("chip(18) till the line ends", x.chip(18), 255 - h);
                x.step(19);
                Due.be("chip(18) behind line " + (h + 1), x.chip(18), 77);
                Due.be("chip(16) behind line " + (h + 1), x.chip(16), 0);
                Due.videoRegister(x, 10, 78);
                x.step(19);
                Due.be("chip(18) behind line " + (h + 2), x.chip(18), 78);
            }
        }
    }

    /** "below 0 it becomes register 10, and LINE ASKS is 1": with 0 at each line, with 1 at each second. */
    private static void countersOfZeroAndMost() {
        int[] values = {0, 1, 2, 255};
        for (int v : values) {
            PadConsole x = new PadConsole(0);
            Due.idle(x);
            Due.videoRegister(x, 10, v);
            x.step(19);
            Due.be("chip(16) behind line 0, register 10 " + v, x.chip(16), 1);
            Due.be("chip(18) behind line 0, register 10 " + v, x.chip(18), v);
            for (int line = 1; line < 10; line++) {
                x.in(0xbf);
                x.step(19);
                Due.be("chip(16) behind line " + line + ", register 10 " + v, x.chip(16), line % (v + 1) == 0 ? 1 : 0);
                Due.be("chip(18) behind line " + line + ", register 10 " + v, x.chip(18), v - line % (v + 1));
            }
        }
        // LINE ASKS stays till STATUS is read.
        PadConsole y = new PadConsole(0);
        Due.idle(y);
        Due.videoRegister(y, 10, 100);
        y.step(19 * 5);
        Due.be("chip(16), not read", y.chip(16), 1);
        Due.be("chip(18), five lines on", y.chip(18), 96);
    }

    /** "If LINE is HEIGHT + 1 then: FRAME is 1." */
    private static void framesBehindHeight() {
        int[] heights = {192, 224, 240};
        for (int h : heights) {
            for (int kind = 0; kind < 3; kind++) {
                PadConsole x = new PadConsole(kind);
                Due.idle(x);
                height(x, h);
                x.step(19 * (h + 1) - 1);
                Due.be("chip(20)", x.chip(20), h);
                Due.be("chip(15) at line " + h, x.chip(15), 0);
                x.step(1);
                Due.be("chip(20)", x.chip(20), h + 1);
                Due.be("chip(15) at line " + (h + 1), x.chip(15), 128);
                Due.be("in(0xbf)", x.in(0xbf), 128);
                x.step(19);
                Due.be("chip(15) at line " + (h + 2), x.chip(15), 0);
                x.picture(1);
                Due.be("chip(15) at line 0", x.chip(15), 0);
            }
        }
    }

    /** HEIGHT is as it is when the line ends. */
    private static void heightThatChanges() {
        PadConsole x = new PadConsole(0);
        Due.idle(x);
        x.step(19 * 193 - 1);
        Due.videoRegister(x, 0, 6);
        Due.videoRegister(x, 1, 0x10);
        x.step(1);
        Due.be("chip(15) at line 193 of 224", x.chip(15), 0);
        x.step(19 * 32);
        Due.be("chip(20)", x.chip(20), 225);
        Due.be("chip(15) at line 225 of 224", x.chip(15), 128);
        // 240 now: FRAME comes once more behind line 240.
        x.in(0xbf);
        Due.videoRegister(x, 1, 8);
        x.step(19 * 15);
        Due.be("chip(15) at line 240 of 240", x.chip(15), 0);
        x.step(19);
        Due.be("chip(15) at line 241 of 240", x.chip(15), 128);
        x.in(0xbf);
        Due.videoRegister(x, 0, 0);
        x.step(19 * 5);
        Due.be("chip(15), HEIGHT + 1 being past", x.chip(15), 0);
    }

    /** "V COUNT, a byte: of 262 lines .. from 219, 235 on 6 less; 240: LINE; of 313: .. from 243, 259, 267 on 57 less." */
    private static void countsOfLines() {
        int[] heights = {192, 224, 240};
        int[][] last = {{218, 234, 261}, {242, 258, 266}, {218, 234, 261}};
        for (int kind = 0; kind < 3; kind++) {
            for (int i = 0; i < 3; i++) {
                PadConsole x = new PadConsole(kind);
                Due.idle(x);
                height(x, heights[i]);
                int end = kind == 1 ? 312 : 261;
                Due.be("chip(25) of line 0", x.chip(25), 0);
                x.step(19 * last[kind][i]);
                Due.be("chip(25), the last that is itself", x.chip(25), last[kind][i] & 255);
                Due.be("in(0x40), the last that is itself", x.in(0x40), last[kind][i] & 255);
                x.step(19);
                int less = kind == 1 ? 57 : 6;
                int due = last[kind][i] == end ? 0 : last[kind][i] + 1 - less;
                Due.be("chip(25), the first that is less", x.chip(25), due);
                if (due > 0) {
                    x.step(19 * (end - last[kind][i] - 1));
                    Due.be("chip(20)", x.chip(20), end);
                    Due.be("chip(25) of the last line", x.chip(25), 255);
                    x.step(19);
                    Due.be("chip(25) of line 0 again", x.chip(25), 0);
                }
            }
        }
        PadConsole x = new PadConsole(0);
        Due.idle(x);
        height(x, 240);
        x.step(19 * 255);
        Due.be("chip(25) of line 255 of 240", x.chip(25), 255);
        x.step(19);
        Due.be("chip(25) of line 256 of 240", x.chip(25), 0);
        x.step(19 * 5);
        Due.be("chip(25) of line 261 of 240", x.chip(25), 5);
        PadConsole y = new PadConsole(1);
        Due.idle(y);
        height(y, 240);
        y.step(19 * 256);
        Due.be("chip(25) of line 256 of 313", y.chip(25), 0);
        y.step(19 * 10);
        Due.be("chip(25) of line 266 of 313", y.chip(25), 10);
        y.step(19);
        Due.be("chip(25) of line 267 of 313", y.chip(25), 210);
    }

    /** "behind the last one 0: then SCROLL is register 9". */
    private static void scrollAtThePicturesEnd() {
        PadConsole x = new PadConsole(0);
        Due.idle(x);
        Due.videoRegister(x, 9, 255);
        x.step(19 * 262 - 1);
        Due.be("chip(19) ahead of the end", x.chip(19), 0);
        x.step(1);
        Due.be("chip(19) behind the end", x.chip(19), 255);
        Due.videoRegister(x, 9, 3);
        x.step(19 * 261);
        Due.be("chip(19) in the next picture", x.chip(19), 255);
        x.step(19);
        Due.be("chip(19) behind the next picture", x.chip(19), 3);
    }
}
