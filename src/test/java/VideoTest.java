/** Promises 28 to 31: video, chip, dot, row; what the chip does with time, and what it draws. */
public final class VideoTest {
    private VideoTest() {
    }

    public static void main(String[] args) {
        controlAndData();
        registers();
        colours();
        modesAndHeights();
        lines();
        counters();
        frames();
        counts();
        wrongCalls();
        tiles();
        scrolling();
        tallPictures();
        sprites();
        allSprites();
        spritesMeet();
        largeSprites();
        modeZero();
        modeTwo();
        modeThree();
        modeOne();
        oldSprites();
        oldSpritesMeet();
        switchedOff();
        handyPictures();
        keptColours();
        linesBelow();
        Due.end("VideoTest");
    }

    private static void controlAndData() {
        PadConsole x = new PadConsole(0);
        x.out(0xbf, 0x34);
        Due.be("chip(14)", x.chip(14), 1);
        Due.be("chip(11)", x.chip(11), 0x34);
        x.out(0xbf, 0x52);
        Due.be("chip(14)", x.chip(14), 0);
        Due.be("chip(11)", x.chip(11), 0x1234);
        Due.be("chip(12)", x.chip(12), 1);
        for (int i = 0; i < 10; i++) {
            x.out(0xbe, 0x81 + i);
        }
        Due.be("chip(11)", x.chip(11), 0x123e);
        Due.be("chip(13)", x.chip(13), 0x8a);
        Due.be("video(0x1234)", x.video(0x1234), 0x8887868584838281L);
        Due.be("video(0x1236)", x.video(0x1236), 0x8a89888786858483L);
        Due.be("video(0x1238 + 16384)", x.video(0x1238 + 16384), 0x8a8988878685L);
        x.out(0xbf, 0x35);
        x.out(0xbf, 0x12);
        Due.be("chip(13) of code 0", x.chip(13), 0x82);
        Due.be("chip(11) of code 0", x.chip(11), 0x1236);
        Due.be("in(0xbe)", x.in(0xbe), 0x82);
        Due.be("in(0xbe)", x.in(0xbe), 0x83);
        Due.be("chip(13)", x.chip(13), 0x84);
        Due.be("chip(11)", x.chip(11), 0x1238);
        x.out(0xbf, 0xff);
        Due.be("chip(11) behind a first byte", x.chip(11), 0x12ff);
        x.in(0xbe);
        Due.be("chip(14) behind in(0xbe)", x.chip(14), 0);
        Due.be("chip(11) behind in(0xbe)", x.chip(11), 0x1300);
        Due.vram(x, 0x3fff, 1, 2);
        Due.be("chip(11) that goes round", x.chip(11), 1);
        Due.be("video(-1)", x.video(-1), 0x0201);
        Due.be("video(16383)", x.video(16383), 0x0201);
        x.out(0xbf, 0xff);
        x.out(0xbf, 0x3f);
        Due.be("chip(11) of code 0 that goes round", x.chip(11), 0);
        x.in(0xbe);
        Due.be("chip(13)", x.chip(13), 2);
        x.out(0xbf, 7);
        x.out(0xbe, 5);
        Due.be("chip(14) behind out(0xbe, ..)", x.chip(14), 0);
    }

    private static void registers() {
        PadConsole x = new PadConsole(0);
        for (int k = 0; k < 16; k++) {
            x.out(0xbf, 0x20 + k);
            x.out(0xbf, 0x80 | 0x30 | k);
            Due.be("chip(12)", x.chip(12), 2);
            Due.be("chip(11)", x.chip(11), 0x3020 + 0x101 * k);
        }
        for (int k = 0; k <= 10; k++) {
            Due.be("chip(" + k + ")", x.chip(k), 0x20 + k);
        }
        x.out(0xbe, 77);
        Due.be("video, which code 2 writes too", x.video(0x3f2f) & 255, 77);
    }

    private static void colours() {
        PadConsole x = new PadConsole(0);
        Due.cram(x, 30, 200, 201, 202);
        Due.be("chip(62)", x.chip(62), 200);
        Due.be("chip(63)", x.chip(63), 201);
        Due.be("chip(32)", x.chip(32), 202);
        Due.be("chip(64)", x.chip(64), 0);
        Due.be("video(0)", x.video(0), 0);
        PadConsole handy = new PadConsole(2);
        Due.cram(handy, 62, 10);
        Due.be("chip(94), kept aside", handy.chip(94), 0);
        handy.out(0xbe, 20);
        Due.be("chip(94)", handy.chip(94), 10);
        Due.be("chip(95)", handy.chip(95), 20);
        Due.cram(handy, 5, 30);
        Due.be("chip(36), with what is still aside", handy.chip(36), 10);
        Due.be("chip(37)", handy.chip(37), 30);
        Due.cram(handy, 0, 99);
        handy.reset();
        Due.cram(handy, 1, 7);
        Due.be("chip(32) behind reset()", handy.chip(32), 0);
        Due.be("chip(33) behind reset()", handy.chip(33), 7);
    }

    private static void modesAndHeights() {
        PadConsole x = new PadConsole(0);
        for (int k = 0; k < 16; k++) {
            Due.videoRegister(x, 0, (k & 1) << 1 | (k & 2) << 1);
            Due.videoRegister(x, 1, (k & 12) << 1);
            boolean four = (k & 2) != 0;
            int mode = four ? 4 : (k & 8) != 0 ? 1 : (k & 4) != 0 ? 3 : (k & 1) != 0 ? 2 : 0;
            int height = four && (k & 1) != 0 ? (k & 12) == 8 ? 224 : (k & 12) == 4 ? 240 : 192 : 192;
            Due.be("chip(22) of " + k, x.chip(22), mode);
            Due.be("chip(23) of " + k, x.chip(23), height);
        }
    }

    private static void lines() {
        PadConsole x = new PadConsole(0);
        Due.idle(x);
        x.step(18);
        Due.be("chip(20), 216 beats", x.chip(20), 0);
        Due.be("chip(21), 216 beats", x.chip(21), 216);
        x.step(1);
        Due.be("chip(20), 228 beats", x.chip(20), 1);
        Due.be("chip(21), 228 beats", x.chip(21), 0);
        x.step(19 * 260);
        Due.be("chip(20)", x.chip(20), 261);
        Due.videoRegister(x, 9, 77);
        Due.be("chip(19) ahead of the end", x.chip(19), 0);
        x.step(19);
        Due.be("chip(20) behind the end", x.chip(20), 0);
        Due.be("chip(19) behind the end", x.chip(19), 77);
        Due.be("look(2)", x.look(2), 1);
        PadConsole y = new PadConsole(1);
        Due.idle(y);
        y.step(19 * 312);
        Due.be("chip(20) of 313 lines", y.chip(20), 312);
        Due.be("look(2) of 313 lines", y.look(2), 0);
        y.step(19);
        Due.be("chip(20) of 313 lines", y.chip(20), 0);
        Due.be("look(2) of 313 lines", y.look(2), 1);
    }

    private static void counters() {
        PadConsole x = new PadConsole(0);
        Due.videoRegister(x, 10, 3);
        Due.idle(x);
        x.step(19);
        Due.be("chip(18) behind line 0", x.chip(18), 3);
        Due.be("chip(16) behind line 0", x.chip(16), 1);
        Due.be("chip(17) without bit 4 of register 0", x.chip(17), 0);
        Due.videoRegister(x, 0, 0x10);
        Due.be("chip(17) with it", x.chip(17), 1);
        Due.be("in(0xbf)", x.in(0xbf), 0);
        Due.be("chip(16) behind in(0xbf)", x.chip(16), 0);
        x.step(19 * 3);
        Due.be("chip(18) three lines on", x.chip(18), 0);
        Due.be("chip(16) three lines on", x.chip(16), 0);
        x.step(19);
        Due.be("chip(18) four lines on", x.chip(18), 3);
        Due.be("chip(16) four lines on", x.chip(16), 1);
        x.in(0xbf);
        x.step(19 * (192 - 5));
        Due.be("chip(20)", x.chip(20), 192);
        Due.be("chip(18) ahead of line 192's end", x.chip(18), 0);
        x.in(0xbf);
        x.step(19);
        Due.be("chip(16) behind line 192", x.chip(16), 1);
        Due.videoRegister(x, 10, 7);
        x.in(0xbf);
        x.step(19);
        Due.be("chip(18) behind line 193", x.chip(18), 7);
        Due.be("chip(16) behind line 193", x.chip(16), 0);
    }

    private static void frames() {
        PadConsole x = new PadConsole(0);
        Due.idle(x);
        Due.videoRegister(x, 10, 255);
        x.step(19 * 192);
        Due.be("chip(15) at line 192", x.chip(15), 0);
        x.step(19);
        Due.be("chip(20)", x.chip(20), 193);
        Due.be("chip(15) at line 193", x.chip(15), 0x80);
        Due.be("chip(15) again", x.chip(15), 0x80);
        Due.be("chip(17) without bit 5 of register 1", x.chip(17), 0);
        Due.videoRegister(x, 1, 0x20);
        Due.be("chip(17) with it", x.chip(17), 1);
        x.out(0xbf, 1);
        Due.be("in(0xbf)", x.in(0xbf), 0x80);
        Due.be("chip(14) behind in(0xbf)", x.chip(14), 0);
        Due.be("chip(15) behind in(0xbf)", x.chip(15), 0);
        Due.be("chip(17) behind in(0xbf)", x.chip(17), 0);
        int[] ones = {0x10, 8};
        int[] heights = {224, 240};
        for (int i = 0; i < 2; i++) {
            PadConsole y = new PadConsole(0);
            Due.idle(y);
            Due.videoRegister(y, 0, 6);
            Due.videoRegister(y, 1, ones[i]);
            y.step(19 * heights[i]);
            Due.be("chip(15) at line " + heights[i], y.chip(15), 0);
            y.step(19);
            Due.be("chip(15) a line on", y.chip(15), 0x80);
        }
    }

    private static void counts() {
        PadConsole x = new PadConsole(0);
        Due.code(x, 0x76);
        int[] beats = {0, 4, 100, 196, 200, 224};
        int[] due = {0, 3, 75, 147, 150 + 0x55, 168 + 0x55};
        int now = 0;
        for (int i = 0; i < beats.length; i++) {
            if (beats[i] > now) {
                x.step((beats[i] - now) / 4);
            }
            now = beats[i];
            Due.be("chip(24), " + now + " beats", x.chip(24), due[i]);
        }
        int[] ones = {0, 0x10, 8};
        int[][] from = {{219, 235, 999}, {243, 259, 267}};
        for (int kind = 0; kind < 2; kind++) {
            for (int i = 0; i < 3; i++) {
                PadConsole y = new PadConsole(kind);
                Due.code(y, 0x76);
                Due.videoRegister(y, 0, 6);
                Due.videoRegister(y, 1, ones[i]);
                y.step(57 * 200);
                for (int line = 200; line < (kind == 1 ? 313 : 262); line++) {
                    int v = (line < from[kind][i] ? line : line - (kind == 1 ? 57 : 6)) & 255;
                    if (line % 8 == 0 || line >= 215 && line <= 270) {
                        Due.be("chip(25) of line " + line, y.chip(25), v);
                        Due.be("in(0x7e) of line " + line, y.in(0x7e), v);
                    }
                    y.step(57);
                }
                Due.be("chip(25) of line 0", y.chip(25), 0);
            }
        }
    }

    private static void wrongCalls() {
        PadConsole x = new PadConsole(0);
        int[] wrong = {-1, 26, 31, 96, 1000};
        for (int what : wrong) {
            Due.fail("chip(" + what + ")", Due.ARGUMENT, () -> x.chip(what));
        }
        Due.fail("dot(-1, 0)", Due.NONE, () -> x.dot(-1, 0));
        Due.fail("dot(256, 0)", Due.NONE, () -> x.dot(256, 0));
        Due.fail("dot(0, -1)", Due.NONE, () -> x.dot(0, -1));
        Due.fail("dot(0, 192)", Due.NONE, () -> x.dot(0, 192));
        Due.fail("row(-1)", Due.NONE, () -> x.row(-1));
        Due.fail("row(192)", Due.NONE, () -> x.row(192));
        Due.be("dot(255, 191)", x.dot(255, 191), 0);
        Due.be("row(191)", x.row(191), 0);
        Due.videoRegister(x, 0, 6);
        Due.videoRegister(x, 1, 8);
        Due.be("dot(255, 239) of 240 lines", x.dot(255, 239), 0);
        Due.fail("row(240)", Due.NONE, () -> x.row(240));
        Due.videoRegister(x, 1, 0x10);
        Due.be("row(223) of 224 lines", x.row(223), 0);
        Due.fail("row(224)", Due.NONE, () -> x.row(224));
        PadConsole handy = new PadConsole(2);
        Due.be("dot(159, 143) of a handy console", handy.dot(159, 143), 0);
        Due.fail("dot(160, 0) of a handy console", Due.NONE, () -> handy.dot(160, 0));
        Due.fail("dot(0, 144) of a handy console", Due.NONE, () -> handy.dot(0, 144));
        Due.videoRegister(handy, 0, 6);
        Due.videoRegister(handy, 1, 8);
        Due.fail("row(144) of a handy console", Due.NONE, () -> handy.row(144));
    }

    /** Mode 4 without sprites; colour number n is n + 1; tile 1 has 1 2 4 8 0 0 0 15 in row 0, 1 in row 7. */
    private static PadConsole modeFour(int kind) {
        PadConsole x = new PadConsole(kind);
        Due.idle(x);
        Due.videoRegister(x, 0, 4);
        Due.videoRegister(x, 1, 0x40);
        Due.videoRegister(x, 2, 0xff);
        Due.videoRegister(x, 5, 0xff);
        Due.videoRegister(x, 6, 0);
        Due.videoRegister(x, 7, 5);
        Due.vram(x, 0x3f00, 208);
        int[] all = new int[32];
        for (int i = 0; i < 32; i++) {
            all[i] = 0xc0 + i + 1;
        }
        Due.cram(x, 0, all);
        Due.vram(x, 32, 0x81, 0x41, 0x21, 0x11);
        Due.vram(x, 32 + 28, 0xff);
        return x;
    }

    private static void dots(PadConsole x, String what, int left, int y, int... due) {
        for (int i = 0; i < due.length; i++) {
            Due.be("dot(" + (left + i) + ", " + y + ") " + what, x.dot(left + i, y), due[i]);
        }
    }

    private static void tiles() {
        PadConsole x = modeFour(0);
        Due.vram(x, 0x3800, 1, 0, 1, 2, 1, 4, 1, 8, 1, 0x0e, 0, 0, 0xff, 1);
        Due.vram(x, 32 * 511, 0x80);
        Due.vram(x, 0x3800 + 64 * 23 + 62, 1, 0);
        x.picture(1);
        dots(x, "of a tile", 0, 0, 2, 3, 5, 9, 1, 1, 1, 16);
        dots(x, "of a tile turned left to right", 8, 0, 16, 1, 1, 1, 9, 5, 3, 2);
        dots(x, "of a tile turned up to down", 16, 0, 2, 2, 2, 2, 2, 2, 2, 2);
        dots(x, "of its last line", 16, 7, 2, 3, 5, 9, 1, 1, 1, 16);
        dots(x, "with other colours", 24, 0, 18, 19, 21, 25, 17, 17, 17, 32);
        dots(x, "with all of it", 32, 7, 32, 17, 17, 17, 25, 21, 19, 18);
        dots(x, "of tile 0", 40, 0, 1, 1);
        dots(x, "of tile 511", 48, 0, 2, 1);
        dots(x, "of the last name", 248, 184, 2, 3, 5, 9, 1, 1, 1, 16);
        Due.be("dot(0, 1)", x.dot(0, 1), 1);
        int sum = 0;
        for (int i = 0; i < 256; i++) {
            sum = 31 * sum + x.dot(i, 0);
        }
        Due.be("row(0)", x.row(0), sum);
    }

    private static void scrolling() {
        PadConsole x = modeFour(0);
        Due.vram(x, 0x3800, 1, 0);
        Due.vram(x, 0x3800 + 64, 1, 0);
        Due.vram(x, 0x3800 + 64 * 2, 1, 0);
        Due.vram(x, 0x3800 + 48, 1, 0);
        Due.vram(x, 0x3800 + 64 * 27 + 2, 1, 0);
        Due.videoRegister(x, 8, 3);
        x.picture(1);
        dots(x, "scrolled by 3", 2, 0, 1, 2, 3, 5, 9, 1, 1, 1, 16, 1);
        Due.videoRegister(x, 8, 255);
        Due.videoRegister(x, 0, 4 | 0x40);
        x.picture(1);
        dots(x, "not scrolled above line 16", 0, 8, 2, 3, 5, 9);
        dots(x, "not scrolled in line 15", 254, 15, 1, 1);
        dots(x, "scrolled from line 16 on", 0, 16, 3, 5, 9, 1);
        dots(x, "scrolled from line 16 on, at its right end", 254, 16, 1, 2);
        Due.videoRegister(x, 8, 0);
        Due.videoRegister(x, 9, 221);
        x.picture(1);
        dots(x, "not yet scrolled down", 0, 0, 2, 3, 5, 9);
        x.picture(1);
        Due.be("chip(19)", x.chip(19), 221);
        dots(x, "scrolled down by 221, behind line 224", 0, 3, 2, 3, 5, 9);
        dots(x, "scrolled down by 221, above it", 8, 2, 2, 2, 2, 2);
        dots(x, "scrolled down by 221", 192, 3, 2, 3, 5, 9);
        Due.videoRegister(x, 0, 4 | 0x80);
        x.picture(1);
        dots(x, "scrolled down, but not from dot 192 on", 192, 0, 2, 3, 5, 9);
        dots(x, "scrolled down left of it", 0, 3, 2, 3, 5, 9);
        Due.videoRegister(x, 0, 4 | 0x20);
        x.picture(1);
        dots(x, "with the left eight dots BACK", 0, 3, 22, 22, 22, 22, 22, 22, 22, 22, 1);
    }

    private static void tallPictures() {
        PadConsole x = modeFour(0);
        Due.videoRegister(x, 0, 6);
        Due.videoRegister(x, 1, 0x48);
        Due.videoRegister(x, 2, 0x0b);
        Due.vram(x, 0x2700, 1, 0);
        Due.vram(x, 0x2700 + 64 * 29, 1, 0);
        Due.vram(x, 0x2700 + 64 * 31, 1, 0);
        Due.videoRegister(x, 9, 20);
        // With 240 lines an UP of 208 ends nothing.
        Due.vram(x, 0x3f01, 10);
        Due.vram(x, 0x3f82, 100, 1);
        x.picture(1);
        dots(x, "of 240 lines", 0, 0, 2, 3, 5, 9);
        dots(x, "of line 232", 0, 232, 2, 3, 5, 9);
        dots(x, "of a sprite behind UP 208", 100, 11, 18, 19, 21, 25);
        x.picture(1);
        dots(x, "scrolled by 20 of 256", 0, 236, 2, 3, 5, 9);
        dots(x, "scrolled by 20", 0, 212, 2, 3, 5, 9);
        dots(x, "scrolled by 20, of row 248", 0, 228, 2, 3, 5, 9);
        Due.videoRegister(x, 1, 0x50);
        Due.be("chip(23)", x.chip(23), 224);
        x.picture(1);
        dots(x, "of 224 lines", 0, 212, 2, 3, 5, 9);
    }

    /** Puts sprite n: its UP, LEFT and tile. */
    private static void sprite(PadConsole x, int n, int up, int left, int tile) {
        Due.vram(x, 0x3f00 + n, up);
        Due.vram(x, 0x3f80 + 2 * n, left, tile);
    }

    private static void sprites() {
        PadConsole x = modeFour(0);
        sprite(x, 0, 9, 20, 1);
        sprite(x, 1, 255, 252, 1);
        sprite(x, 2, 30, 3, 1);
        sprite(x, 3, 208, 50, 1);
        sprite(x, 4, 50, 50, 1);
        x.picture(1);
        dots(x, "above a sprite", 20, 9, 1, 1);
        dots(x, "of a sprite", 20, 10, 18, 19, 21, 25, 1, 1, 1, 32);
        dots(x, "of its last line", 20, 17, 18, 18);
        dots(x, "below a sprite", 20, 18, 1, 1);
        dots(x, "of a sprite with UP 255", 252, 0, 18, 19, 21, 25);
        dots(x, "left of all", 0, 0, 1);
        dots(x, "behind UP 208", 50, 51, 1);
        Due.be("chip(15)", x.chip(15), 0x80);
        Due.videoRegister(x, 0, 4 | 8);
        Due.videoRegister(x, 6, 4);
        Due.vram(x, 32 * 257, 0, 0x80);
        x.picture(1);
        dots(x, "of a sprite 8 to the left, of tile 257", 12, 10, 19, 1);
        Due.vram(x, 32 * 257 + 1, 0xff);
        x.picture(1);
        dots(x, "of a sprite that begins left of the picture", 0, 31, 19, 19, 19, 1);
        Due.videoRegister(x, 0, 4 | 8 | 0x20);
        x.picture(1);
        dots(x, "of that sprite behind BACK", 0, 31, 22, 22, 22, 22);
        Due.videoRegister(x, 5, 0x7d);
        x.picture(1);
        dots(x, "with sprites from 0x3e00 on", 12, 10, 1, 1);
    }

    /** There are 64 sprites, and 32 in other modes: what lies behind their bytes is none. */
    private static void allSprites() {
        PadConsole x = modeFour(0);
        int[] ups = new int[65];
        java.util.Arrays.fill(ups, 200);
        ups[63] = 20;
        ups[64] = 40;
        Due.vram(x, 0x3f00, ups);
        Due.vram(x, 0x3f80 + 126, 30, 1, 30, 1);
        x.picture(1);
        dots(x, "of sprite 63", 30, 21, 18, 19, 21, 25);
        dots(x, "where sprite 64 would be", 30, 41, 1, 1, 1, 1);
        PadConsole y = old(0, 0, 0);
        int[] all = new int[33 * 4];
        for (int n = 0; n < 33; n++) {
            all[4 * n] = n == 31 ? 20 : n == 32 ? 40 : 200;
            all[4 * n + 1] = 30;
            all[4 * n + 3] = 7;
        }
        Due.vram(y, 0x3f00, all);
        Due.vram(y, 0x3800, 0xff);
        y.picture(1);
        dots(y, "of sprite 31", 30, 21, 60, 60);
        dots(y, "where sprite 32 would be", 30, 41, 16, 16);
    }

    private static void spritesMeet() {
        PadConsole x = modeFour(0);
        // Tile 2: all 3; tile 3: all 15, ahead by its name.
        Due.vram(x, 64, 255, 255);
        Due.vram(x, 96, 255, 255, 255, 255);
        Due.vram(x, 0x3800 + 64 + 10, 3, 0x10, 3, 0, 0, 0x10);
        sprite(x, 0, 7, 36, 1);
        sprite(x, 1, 7, 43, 2);
        sprite(x, 2, 7, 56, 2);
        sprite(x, 3, 208, 0, 0);
        x.step(19 * 8);
        Due.be("chip(15) ahead of line 8", x.chip(15), 0);
        x.step(19 * 3);
        Due.be("chip(15) where two meet", x.chip(15), 0x20);
        dots(x, "of the first sprite, then behind a tile", 36, 8, 18, 19, 21, 25, 16, 16, 16, 16);
        dots(x, "of a tile ahead, then not ahead", 44, 8, 16, 16, 16, 16, 20, 20, 20, 16);
        dots(x, "of a tile's 0 ahead", 56, 8, 20, 20);
        PadConsole y = modeFour(0);
        for (int n = 0; n < 9; n++) {
            sprite(y, n, n == 8 ? 25 : 20, 20 * n, 1);
        }
        sprite(y, 9, 208, 0, 0);
        y.step(19 * 26);
        Due.be("chip(15) with eight", y.chip(15), 0);
        y.step(19);
        Due.be("chip(15) with nine", y.chip(15), 0x40);
        dots(y, "of the eighth", 140, 21, 18);
        y.step(19 * 7);
        dots(y, "of the ninth, which does not count", 160, 26, 1);
        dots(y, "of the ninth where the others have ended", 160, 33, 18);
        Due.be("in(0xbf)", y.in(0xbf), 0x40);
        Due.be("in(0xbf) again", y.in(0xbf), 0);
    }

    private static void largeSprites() {
        PadConsole x = modeFour(0);
        Due.videoRegister(x, 1, 0x42);
        Due.vram(x, 64, 0xc0);
        Due.vram(x, 96, 0x80);
        sprite(x, 0, 9, 20, 3);
        sprite(x, 1, 208, 0, 0);
        x.picture(1);
        dots(x, "of 16 rows", 20, 10, 18, 18, 1);
        dots(x, "of its second tile", 20, 18, 18, 1);
        dots(x, "below it", 20, 26, 1);
        Due.videoRegister(x, 1, 0x43);
        x.picture(1);
        dots(x, "of 16 rows twice", 20, 11, 18, 18, 18, 18, 1);
        dots(x, "of its second tile twice", 20, 27, 18, 18, 1);
        dots(x, "below that", 20, 28, 1);
        Due.videoRegister(x, 1, 0x41);
        x.picture(1);
        dots(x, "of 8 rows twice", 20, 11, 18, 18, 1);
        dots(x, "below it", 20, 26, 1);
    }

    /** Modes 0 to 3: registers 0, 1; names at 0x1800, patterns at 0x800, colours at 0x2000, sprites at 0x3f00. */
    private static PadConsole old(int kind, int register0, int register1) {
        PadConsole x = new PadConsole(kind);
        Due.idle(x);
        Due.videoRegister(x, 0, register0);
        Due.videoRegister(x, 1, register1 | 0x40);
        Due.videoRegister(x, 2, 0xf6);
        Due.videoRegister(x, 3, 0x80);
        Due.videoRegister(x, 4, 0xf9);
        Due.videoRegister(x, 5, 0xfe);
        Due.videoRegister(x, 6, 0xff);
        Due.videoRegister(x, 7, 0xe4);
        Due.vram(x, 0x3f00, 208);
        return x;
    }

    private static void modeZero() {
        PadConsole x = old(0, 0, 0);
        Due.vram(x, 0x1800, 9, 7);
        Due.vram(x, 0x1800 + 32 * 23 + 31, 9);
        Due.vram(x, 0x800 + 8 * 9, 0xa1);
        Due.vram(x, 0x800 + 8 * 9 + 7, 0xff);
        Due.vram(x, 0x2001, 0x7b);
        Due.vram(x, 0x2000, 0x90);
        x.picture(1);
        // Colours 7, 11, 4 (BACK for 0) are 60, 15, 16.
        dots(x, "of mode 0", 0, 0, 60, 15, 60, 15, 15, 15, 15, 60);
        dots(x, "of mode 0, its last line", 0, 7, 60, 60);
        dots(x, "of colour 0", 8, 0, 16, 16);
        dots(x, "of the last name", 248, 184, 60, 15, 60, 15, 15, 15, 15, 60);
        Due.be("chip(22)", x.chip(22), 0);
    }

    private static void modeTwo() {
        PadConsole x = old(0, 2, 0);
        Due.videoRegister(x, 3, 0xff);
        Due.videoRegister(x, 4, 3);
        Due.vram(x, 0x1800, 9);
        Due.vram(x, 0x1800 + 32 * 8, 9);
        Due.vram(x, 0x1800 + 32 * 16, 9);
        Due.vram(x, 8 * 9, 0x80);
        Due.vram(x, 0x800 + 8 * 9 + 1, 0x40);
        Due.vram(x, 0x1000 + 8 * 9, 0x20);
        Due.vram(x, 0x2000 + 8 * 9, 0x7b);
        Due.vram(x, 0x2800 + 8 * 9 + 1, 0xb7);
        Due.vram(x, 0x3000 + 8 * 9, 0x2f);
        x.picture(1);
        dots(x, "of the first third", 0, 0, 60, 15, 15);
        dots(x, "of the second third", 0, 65, 60, 15, 60);
        dots(x, "of the last third", 0, 128, 63, 63, 8);
        // Only the first third's patterns, and colours of t modulo 8.
        Due.videoRegister(x, 4, 0);
        Due.videoRegister(x, 3, 0x80);
        Due.vram(x, 0x2000 + 8, 0xb7);
        x.picture(1);
        dots(x, "of the last third with the first one's bytes", 0, 128, 15, 60, 60);
        Due.videoRegister(x, 4, 7);
        Due.vram(x, 0x2000 + 8 * 9, 0xff);
        x.picture(1);
        dots(x, "with patterns from 0x2000 on", 0, 0, 15, 15, 15);
    }

    private static void modeThree() {
        PadConsole x = old(0, 0, 8);
        Due.vram(x, 0x1800, 9);
        Due.vram(x, 0x1820, 9);
        Due.vram(x, 0x1880, 9);
        Due.vram(x, 0x800 + 8 * 9, 0x7b, 0xb7, 0x20, 0x02);
        x.picture(1);
        dots(x, "of mode 3", 0, 3, 60, 60, 60, 60, 15, 15, 15, 15);
        dots(x, "of mode 3, line 4", 0, 4, 15, 15, 15, 15, 60, 60, 60, 60);
        dots(x, "of mode 3, line 8", 0, 8, 8, 8, 8, 8, 16, 16, 16, 16);
        dots(x, "of mode 3, line 15", 0, 15, 16, 16, 16, 16, 8, 8, 8, 8);
        dots(x, "of mode 3, line 32", 0, 32, 60, 60, 60, 60, 15);
        Due.be("chip(22)", x.chip(22), 3);
    }

    private static void modeOne() {
        PadConsole x = old(0, 0, 0x10);
        Due.vram(x, 0x1800, 9, 9);
        Due.vram(x, 0x1800 + 39, 9);
        Due.vram(x, 0x1800 + 40, 9);
        Due.vram(x, 0x800 + 8 * 9, 0x87);
        Due.vram(x, 0x3f00, 9, 8, 0, 1);
        x.picture(1);
        // Colours 14 and 4 are 21 and 16.
        dots(x, "of mode 1", 7, 0, 16, 21, 16, 16, 16, 16, 21, 21, 16, 16, 16, 16, 21, 16);
        dots(x, "of the last sign", 242, 0, 21, 16, 16, 16, 16, 21, 16);
        dots(x, "of the second line of signs", 8, 8, 21, 16);
        Due.videoRegister(x, 7, 0x05);
        x.picture(1);
        dots(x, "with colour 0 on BACK", 8, 0, 48, 48);
    }

    private static void oldSprites() {
        PadConsole x = old(0, 0, 0);
        // Patterns at 0x3800: 5 has 0xc1 first, 0xff last; 4 .. 7 a large one.
        Due.vram(x, 0x3800 + 40, 0xc1);
        Due.vram(x, 0x3800 + 47, 0xff);
        Due.vram(x, 0x3800 + 32, 0x80);
        Due.vram(x, 0x3800 + 48, 0x01);
        Due.vram(x, 0x3f00, 9, 20, 5, 0x07, 19, 20, 5, 0x8b, 29, 40, 5, 0x8b, 208, 0, 0, 0, 39, 9, 5, 7);
        x.picture(1);
        dots(x, "of a sprite", 20, 10, 60, 60, 16, 16, 16, 16, 16, 60);
        dots(x, "of its last line", 20, 17, 60, 60);
        dots(x, "below it", 20, 18, 16);
        dots(x, "of a sprite 32 to the left", 8, 30, 15, 15, 16);
        dots(x, "behind UP 208", 9, 40, 16);
        dots(x, "of a sprite left of the picture", 0, 27, 16);
        Due.videoRegister(x, 1, 0x42);
        x.picture(1);
        dots(x, "of a large sprite", 20, 10, 60, 16);
        dots(x, "of its right half", 34, 10, 16, 60, 16);
        dots(x, "of its ninth row", 20, 18, 60, 60, 16, 16, 16, 16, 16, 60);
        dots(x, "of its last row", 20, 25, 60, 60);
        dots(x, "of the right dot of a sprite left of the picture", 2, 20, 16, 15, 16);
        Due.videoRegister(x, 1, 0x41);
        x.picture(1);
        dots(x, "of a small one twice", 20, 10, 60, 60, 60, 60, 16);
        dots(x, "of its first row again", 20, 11, 60, 60, 60, 60, 16);
        dots(x, "of its last row", 35, 25, 60, 16);
    }

    private static void oldSpritesMeet() {
        PadConsole x = old(0, 0, 0);
        Due.vram(x, 0x3800, 0xff, 0xff);
        Due.vram(x, 0x3f00, 9, 20, 0, 0, 9, 24, 0, 7, 9, 26, 0, 11, 208);
        x.step(19 * 10);
        Due.be("chip(15) above them", x.chip(15), 0);
        x.step(19);
        Due.be("chip(15) where two meet", x.chip(15), 0x20);
        dots(x, "of colour 0, then 7, then 11", 20, 10, 16, 16, 16, 16, 60, 60, 60, 60, 60, 60, 60, 60, 15, 15, 16);
        PadConsole y = old(0, 0, 0);
        Due.vram(y, 0x3800, 0xff);
        for (int n = 0; n < 7; n++) {
            Due.vram(y, 0x3f00 + 4 * n, n == 2 ? 100 : 9, 20 * n, 0, 7);
        }
        Due.vram(y, 0x3f1c, 208);
        y.step(19 * 11);
        Due.be("chip(15) with five", y.chip(15), 0x40 | 5);
        dots(y, "of the fourth", 80, 10, 60);
        dots(y, "of the fifth, which does not count", 100, 10, 16);
        Due.vram(y, 0x3f14, 100);
        y.step(19 * 2);
        Due.be("chip(15) with another fifth", y.chip(15), 0x40 | 5);
        y.in(0xbf);
        y.step(19);
        Due.be("chip(15) with another fifth behind in(0xbf)", y.chip(15), 0x40 | 6);
        PadConsole z = old(0, 0, 0);
        Due.vram(z, 0x3800, 0xff);
        Due.vram(z, 0x3f00, 9, 20, 0, 0, 9, 20, 0, 0, 9, 26, 0, 11, 208);
        z.step(19 * 11);
        Due.be("chip(15) where two of colour 0 meet", z.chip(15), 0x20);
    }

    private static void switchedOff() {
        PadConsole x = modeFour(0);
        for (int n = 0; n < 10; n++) {
            sprite(x, n, 20, 20, 1);
        }
        Due.videoRegister(x, 1, 0);
        x.picture(1);
        dots(x, "of what is switched off", 0, 21, 22, 22);
        dots(x, "of what is switched off", 20, 21, 22, 22);
        Due.be("chip(15)", x.chip(15), 0x80);
        Due.videoRegister(x, 0, 0);
        x.picture(1);
        dots(x, "of what is switched off in mode 0", 20, 21, 48);
    }

    private static void handyPictures() {
        PadConsole x = new PadConsole(2);
        Due.idle(x);
        Due.videoRegister(x, 0, 4);
        Due.videoRegister(x, 1, 0x40);
        Due.videoRegister(x, 2, 0xff);
        Due.videoRegister(x, 5, 0xff);
        Due.vram(x, 0x3f00, 208);
        Due.cram(x, 0, 0x34, 0xf2, 0x78, 0x06, 0xbc, 0x0a);
        Due.vram(x, 32, 0x80);
        Due.vram(x, 33, 0x01);
        Due.vram(x, 0x3800 + 64 * 3 + 12, 1, 0);
        Due.vram(x, 0x3800 + 64 * 20 + 50, 1, 0);
        x.picture(1);
        dots(x, "of a handy console", 0, 0, 0x678, 0x234, 0x234, 0x234, 0x234, 0x234, 0x234, 0xabc, 0x234);
        dots(x, "of a handy console's last tile", 152, 136, 0x678, 0x234, 0x234, 0x234, 0x234, 0x234, 0x234, 0xabc);
        int sum = 0;
        for (int i = 0; i < 160; i++) {
            sum = 31 * sum + x.dot(i, 0);
        }
        Due.be("row(0) of a handy console", x.row(0), sum);
        int[] fixed = {0, 0, 8, 12, 16, 48, 1, 60, 2, 3, 5, 15, 4, 51, 21, 63};
        PadConsole y = new PadConsole(2);
        PadConsole z = new PadConsole(0);
        Due.idle(y);
        Due.idle(z);
        for (int n = 0; n < 16; n++) {
            Due.videoRegister(y, 7, n);
            Due.videoRegister(z, 7, n);
            y.picture(1);
            z.picture(1);
            int c = fixed[n];
            Due.be("colour " + n + " of a handy console", y.dot(9, 9), 5 * (c & 3) + 80 * (c >> 2 & 3) + 1280 * (c >> 4));
            Due.be("colour " + n, z.dot(9, 9), c);
        }
    }

    /** What is not below HEIGHT is not drawn, and what is, is drawn to the last line. */
    private static void linesBelow() {
        PadConsole x = modeFour(0);
        for (int n = 0; n < 10; n++) {
            sprite(x, n, 191, 20, 1);
        }
        sprite(x, 10, 208, 0, 0);
        x.picture(1);
        Due.be("chip(15), of sprites on line 192", x.chip(15), 0x80);
        Due.be("dot(0, 191)", x.dot(0, 191), 1);
        Due.videoRegister(x, 0, 6);
        Due.videoRegister(x, 1, 0x48);
        Due.be("dot(0, 192) of what was 192 lines", x.dot(0, 192), 0);
        x.picture(1);
        Due.be("dot(0, 239) of 240 lines", x.dot(0, 239), 1);
        Due.be("row(239) of 240 lines", x.row(239), x.row(238));
        Due.be("chip(15), of sprites on line 192 of 240", x.chip(15), 0xe0);
    }

    private static void keptColours() {
        PadConsole x = modeFour(0);
        x.picture(1);
        Due.be("dot(9, 9)", x.dot(9, 9), 1);
        Due.cram(x, 0, 55);
        Due.be("dot(9, 9) with CRAM changed", x.dot(9, 9), 1);
        x.reset();
        Due.be("dot(9, 9) behind reset()", x.dot(9, 9), 1);
        Due.idle(x);
        x.step(19 * 9);
        Due.be("dot(9, 8) drawn anew", x.dot(9, 8), 0);
        Due.be("dot(9, 9) not drawn yet", x.dot(9, 9), 1);
    }
}
