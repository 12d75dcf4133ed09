/** The edges of what is DRAWN, and of promises 30, 31 (dot, row), sentence by sentence. */
public final class DrawingEdgesTest {
    private DrawingEdgesTest() {
    }

    public static void main(String[] args) {
        promise30FirstAndLastDots();
        promise30HeightIsThatOfNow();
        promise30HandyDots();
        promise31RowsGoRound();
        linesBelowHeightAreDrawn();
        backIsModulo16();
        switchedOffAndOn();
        columnsGoRound();
        rowsGoRound();
        rowsGoRoundInTallPictures();
        linesAbove16StayStill();
        dotsFrom192OnStayStill();
        namesBegin();
        tallNamesBegin();
        firstAndLastTile();
        leftEightDots();
        spritesUpAndDown();
        spritesOfTallPictures();
        spritesLeftAndRight();
        eightSpritesAndNine();
        spritesThatMeet();
        spritesOfSixteenRows();
        spritesBehindTiles();
        spriteTables();
        coloursAreModulo64();
        oldSpritesUpAndDown();
        oldSpritesLeftAndRight();
        fourSpritesAndFive();
        oldSpritesThatMeet();
        largeOldSprites();
        coloursOfModeZero();
        thirdsOfModeTwo();
        masksOfModeTwo();
        blocksOfModeThree();
        signsOfModeOne();
        Due.end("DrawingEdgesTest");
    }

    /** Mode 4; colour n is n + 1; tile 2 is all 3s, tile 1 has a 1 at its first dot and a 2 at its last in each row. */
    private static PadConsole modeFour(int kind) {
        PadConsole x = new PadConsole(kind);
        Due.idle(x);
        Due.videoRegister(x, 0, 4);
        Due.videoRegister(x, 1, 0x40);
        Due.videoRegister(x, 2, 0xff);
        Due.videoRegister(x, 5, 0xff);
        Due.videoRegister(x, 7, 5);
        Due.vram(x, 0x3f00, 208);
        int[] colours = new int[32];
        for (int i = 0; i < 32; i++) {
            colours[i] = i + 1;
        }
        Due.cram(x, 0, colours);
        int[] tiles = new int[64];
        for (int row = 0; row < 8; row++) {
            tiles[4 * row] = 0x80;
            tiles[4 * row + 1] = 0x01;
            tiles[32 + 4 * row] = 255;
            tiles[32 + 4 * row + 1] = 255;
        }
        Due.vram(x, 32, tiles);
        return x;
    }

    private static void sprite(PadConsole x, int n, int up, int left, int tile) {
        Due.vram(x, 0x3f00 + n, up);
        Due.vram(x, 0x3f80 + 2 * n, left, tile);
    }

    /** Dots from one on, up to another, have a colour, and those beside them another one. */
    private static void span(PadConsole x, String what, int y, int from, int to, int colour, int other) {
        int[] inside = {from, (from + to) / 2, to};
        if (to >= from) {
            for (int i : inside) {
                Due.be("dot(" + i + ", " + y + ") " + what, x.dot(i, y), colour);
            }
        }
        if (from > 0) {
            Due.be("dot(" + (from - 1) + ", " + y + ") left of " + what, x.dot(from - 1, y), other);
        }
        if (to < 255) {
            Due.be("dot(" + (to + 1) + ", " + y + ") right of " + what, x.dot(to + 1, y), other);
        }
    }

    /** "256 by HEIGHT dots"; "(0 at first)". */
    private static void promise30FirstAndLastDots() {
        int[] heights = {192, 224, 240};
        int[] registers = {0, 0x10, 8};
        for (int i = 0; i < 3; i++) {
            PadConsole x = new PadConsole(i % 2);
            Due.videoRegister(x, 0, 6);
            Due.videoRegister(x, 1, registers[i]);
            int h = heights[i];
            Due.be("dot(0, 0) at first", x.dot(0, 0), 0);
            Due.be("dot(255, 0) at first", x.dot(255, 0), 0);
            Due.be("dot(0, " + (h - 1) + ") at first", x.dot(0, h - 1), 0);
            Due.be("dot(255, " + (h - 1) + ") at first", x.dot(255, h - 1), 0);
            Due.be("row(" + (h - 1) + ") at first", x.row(h - 1), 0);
            Due.fail("dot(256, 0)", Due.NONE, () -> x.dot(256, 0));
            Due.fail("dot(-1, 0)", Due.NONE, () -> x.dot(-1, 0));
            Due.fail("dot(-1, 1)", Due.NONE, () -> x.dot(-1, 1));
            Due.fail("dot(0, " + h + ")", Due.NONE, () -> x.dot(0, h));
            Due.fail("dot(0, -1)", Due.NONE, () -> x.dot(0, -1));
            Due.fail("dot(255, " + h + ")", Due.NONE, () -> x.dot(255, h));
            Due.fail("row(" + h + ")", Due.NONE, () -> x.row(h));
            Due.fail("row(-1)", Due.NONE, () -> x.row(-1));
        }
    }

    /** "(as HEIGHT is when one asks)"; "It is told as the lines were drawn last". */
    private static void promise30HeightIsThatOfNow() {
        PadConsole x = modeFour(0);
        Due.videoRegister(x, 0, 6);
        Due.videoRegister(x, 1, 0x48);
        x.picture(1);
        Due.be("dot(255, 239) of 240", x.dot(255, 239), 1);
        Due.videoRegister(x, 1, 0x50);
        Due.be("dot(255, 223) of 224", x.dot(255, 223), 1);
        Due.fail("dot(255, 224) of 224", Due.NONE, () -> x.dot(255, 224));
        Due.videoRegister(x, 0, 4);
        Due.cram(x, 0, 9);
        x.picture(1);
        Due.be("dot(255, 191) of 192", x.dot(255, 191), 9);
        Due.fail("dot(255, 192) of 192", Due.NONE, () -> x.dot(255, 192));
        Due.videoRegister(x, 0, 6);
        Due.videoRegister(x, 1, 0x48);
        Due.be("dot(255, 191) of 240 again", x.dot(255, 191), 9);
        Due.be("dot(255, 192) of 240 again, as it was drawn last", x.dot(255, 192), 1);
        Due.be("dot(255, 239) of 240 again, as it was drawn last", x.dot(255, 239), 1);
    }

    /** "of a handy console 160 by 144 of them, whatever HEIGHT is, from dot 48 of line 24 on". */
    private static void promise30HandyDots() {
        PadConsole x = modeFour(2);
        // A tile of 3s just inside each corner, and one just outside.
        int[] inside = {64 * 3 + 12, 64 * 3 + 50, 64 * 20 + 12, 64 * 20 + 50};
        int[] outside = {64 * 2 + 12, 64 * 3 + 10, 64 * 3 + 52, 64 * 21 + 50, 64 * 20 + 52};
        for (int at : inside) {
            Due.vram(x, 0x3800 + at, 2, 0);
        }
        for (int at : outside) {
            Due.vram(x, 0x3800 + at, 1, 0);
        }
        x.picture(1);
        // The two bytes of colour 3 are 7 and 8, those of colour 0 are 1 and 2.
        int three = 7 + 256 * 8;
        int none = 1 + 256 * 2;
        int[] xs = {0, 7, 152, 159};
        int[] ys = {0, 7, 136, 143};
        for (int a : xs) {
            for (int b : ys) {
                Due.be("dot(" + a + ", " + b + ") of a handy console", x.dot(a, b), three);
            }
        }
        Due.be("dot(8, 0)", x.dot(8, 0), none);
        Due.be("dot(151, 143)", x.dot(151, 143), none);
        Due.be("dot(0, 8)", x.dot(0, 8), none);
        Due.be("dot(159, 135)", x.dot(159, 135), none);
        int[] heights = {0, 0x50, 0x48};
        for (int register1 : heights) {
            Due.videoRegister(x, 0, 6);
            Due.videoRegister(x, 1, register1);
            Due.be("dot(159, 143)", x.dot(159, 143), three);
            Due.fail("dot(160, 143)", Due.NONE, () -> x.dot(160, 143));
            Due.fail("dot(159, 144)", Due.NONE, () -> x.dot(159, 144));
            Due.fail("row(144)", Due.NONE, () -> x.row(144));
        }
    }

    /** "s = 31 * s + its colour (an int that goes round)". */
    private static void promise31RowsGoRound() {
        for (int kind = 0; kind < 3; kind += 2) {
            PadConsole x = modeFour(kind);
            Due.vram(x, 0x3800 + 64 * 3 + 12, 2, 0, 1, 0);
            Due.vram(x, 0x3800 + 64 * 20 + 48, 2, 0, 1, 0);
            x.picture(1);
            int lines = kind == 2 ? 144 : 192;
            int width = kind == 2 ? 160 : 256;
            int y = kind == 2 ? 0 : 24;
            int sum = 0;
            for (int i = 0; i < width; i++) {
                sum = 31 * sum + x.dot(i, y);
            }
            Due.be("row(" + y + ") of kind " + kind, x.row(y), sum);
            Due.be("row of the line above the last", x.row(lines - 2), x.row(lines - 1));
            Due.be("that the two rows differ", x.row(y) != x.row(lines - 1), true);
        }
    }

    /** "if it is below HEIGHT, it is DRAWN": the last one, and none behind it. */
    private static void linesBelowHeightAreDrawn() {
        int[] heights = {192, 224, 240};
        int[] registers = {0x40, 0x50, 0x48};
        for (int i = 0; i < 3; i++) {
            PadConsole x = modeFour(0);
            int h = heights[i];
            Due.videoRegister(x, 0, 6);
            Due.videoRegister(x, 1, registers[i]);
            x.step(19 * (h - 1));
            Due.be("dot(0, " + (h - 2) + "), drawn", x.dot(0, h - 2), 1);
            Due.be("dot(0, " + (h - 1) + "), not yet drawn", x.dot(0, h - 1), 0);
            x.step(19);
            Due.be("dot(0, " + (h - 1) + "), drawn", x.dot(0, h - 1), 1);
            x.picture(1);
            if (h < 240) {
                Due.videoRegister(x, 1, 0x48);
                Due.be("dot(0, " + h + "), not drawn", x.dot(0, h), 0);
            }
        }
    }

    /** "BACK is 16 + register 7 modulo 16 in mode 4, else register 7 modulo 16." */
    private static void backIsModulo16() {
        int[] fixed = {0, 0, 8, 12, 16, 48, 1, 60, 2, 3, 5, 15, 4, 51, 21, 63};
        int[] values = {0, 1, 15, 16, 31, 0xf0, 0xff};
        PadConsole x = modeFour(0);
        Due.videoRegister(x, 1, 0);
        for (int v : values) {
            Due.videoRegister(x, 7, v);
            Due.videoRegister(x, 0, 4);
            x.picture(1);
            Due.be("BACK of mode 4 with " + v, x.dot(99, 99), 17 + v % 16);
            Due.videoRegister(x, 0, 0);
            x.picture(1);
            Due.be("BACK of mode 0 with " + v, x.dot(99, 99), fixed[v % 16]);
        }
    }

    /** "If bit 6 of register 1 is 0: all are BACK, and there are no sprites." */
    private static void switchedOffAndOn() {
        PadConsole x = modeFour(0);
        for (int n = 0; n < 9; n++) {
            sprite(x, n, 49, 20, 2);
        }
        sprite(x, 9, 208, 0, 0);
        Due.videoRegister(x, 1, 0xbf & ~0x1b);
        x.step(19 * 60);
        Due.be("chip(15), switched off", x.chip(15), 0);
        Due.be("dot(20, 50), switched off", x.dot(20, 50), 22);
        x.picture(1);
        x.in(0xbf);
        Due.videoRegister(x, 1, 0x40);
        x.step(19 * 60);
        Due.be("chip(15), switched on", x.chip(15), 0x60);
        Due.be("dot(20, 50), switched on", x.dot(20, 50), 20);
    }

    /** "its column j = (i - h) modulo 256". */
    private static void columnsGoRound() {
        int[] hs = {0, 1, 7, 8, 9, 248, 249, 255};
        for (int h : hs) {
            PadConsole x = modeFour(0);
            // Tile 1 in column 0, tile 2 in column 31.
            Due.vram(x, 0x3800, 1, 0);
            Due.vram(x, 0x3800 + 62, 2, 0);
            Due.videoRegister(x, 8, h);
            x.picture(1);
            for (int j = 0; j < 8; j++) {
                Due.be("the dot of column " + j + ", h " + h, x.dot((j + h) % 256, 3), j == 0 ? 2 : j == 7 ? 3 : 1);
                Due.be("the dot of column " + (248 + j) + ", h " + h, x.dot((248 + j + h) % 256, 3), 4);
            }
            Due.be("the dot of column 8", x.dot((8 + h) % 256, 3), 1);
            Due.be("the dot of column 247", x.dot((247 + h) % 256, 3), 1);
        }
    }

    /** "its row k = L + SCROLL, modulo 224". */
    private static void rowsGoRound() {
        int[] scrolls = {0, 1, 33, 223, 224, 225, 255};
        for (int scroll : scrolls) {
            PadConsole x = modeFour(0);
            // Rows of names 0 and 27 have tile 2 in their first column.
            Due.vram(x, 0x3800, 2, 0);
            Due.vram(x, 0x3800 + 64 * 27, 2, 0);
            Due.videoRegister(x, 9, scroll);
            x.picture(2);
            int[] lines = {0, 1, 7, 8, 150, 158, 159, 160, 161, 167, 168, 190, 191};
            for (int line : lines) {
                int k = (line + scroll) % 224;
                Due.be("dot(0, " + line + ") with SCROLL " + scroll, x.dot(0, line), k < 8 || k >= 216 ? 4 : 1);
            }
        }
    }

    /** ".. modulo 224 (256 with 224, 240)". */
    private static void rowsGoRoundInTallPictures() {
        int[] scrolls = {0, 16, 31, 32, 33, 255};
        int[] registers = {0x50, 0x48};
        for (int scroll : scrolls) {
            for (int r = 0; r < 2; r++) {
                PadConsole x = modeFour(0);
                Due.vram(x, 0x3700, 2, 0);
                Due.vram(x, 0x3700 + 64 * 31, 2, 0);
                Due.vram(x, 0x3f00, 200);
                Due.videoRegister(x, 5, 0);
                Due.videoRegister(x, 0, 6);
                Due.videoRegister(x, 1, registers[r]);
                Due.videoRegister(x, 9, scroll);
                // Sprites begin at 0, where there are 0s: row 1 of the picture, tile 0, no dots.
                x.picture(2);
                int[] lines = {0, 1, 7, 8, 207, 208, 215, 216, 222, 223};
                for (int line : lines) {
                    int k = (line + scroll) % 256;
                    Due.be("dot(0, " + line + ") with SCROLL " + scroll, x.dot(0, line), k < 8 || k >= 248 ? 4 : 1);
                }
            }
        }
    }

    /** "h is register 8, but 0 for L below 16 with bit 6 of register 0". */
    private static void linesAbove16StayStill() {
        for (int bit = 0; bit < 2; bit++) {
            PadConsole x = modeFour(0);
            Due.vram(x, 0x3800 + 64, 2, 0);
            Due.vram(x, 0x3800 + 128, 2, 0);
            Due.videoRegister(x, 0, 4 | bit << 6);
            Due.videoRegister(x, 8, 100);
            x.picture(1);
            span(x, "of line 15, bit " + bit, 15, bit == 1 ? 0 : 100, bit == 1 ? 7 : 107, 4, 1);
            span(x, "of line 16, bit " + bit, 16, 100, 107, 4, 1);
        }
    }

    /** "but L for i from 192 on with bit 7 of register 0". */
    private static void dotsFrom192OnStayStill() {
        for (int bit = 0; bit < 2; bit++) {
            PadConsole x = modeFour(0);
            int[] names = new int[64];
            for (int i = 0; i < 64; i += 2) {
                names[i] = 2;
            }
            Due.vram(x, 0x3800 + 64, names);
            Due.videoRegister(x, 0, 4 | bit << 7);
            Due.videoRegister(x, 8, 3);
            Due.videoRegister(x, 9, 8);
            x.picture(2);
            Due.be("dot(191, 0), bit " + bit, x.dot(191, 0), 4);
            Due.be("dot(192, 0), bit " + bit, x.dot(192, 0), bit == 1 ? 1 : 4);
            Due.be("dot(255, 0), bit " + bit, x.dot(255, 0), bit == 1 ? 1 : 4);
            Due.be("dot(191, 8), bit " + bit, x.dot(191, 8), 1);
            Due.be("dot(192, 8), bit " + bit, x.dot(192, 8), bit == 1 ? 4 : 1);
            Due.be("dot(255, 15), bit " + bit, x.dot(255, 15), bit == 1 ? 4 : 1);
            Due.be("dot(255, 16), bit " + bit, x.dot(255, 16), 1);
        }
    }

    /** "NAMES begin at 1024 * (register 2 modulo 16, its bit 0 taken as 0)". */
    private static void namesBegin() {
        int[] values = {0x02, 0x03, 0x0c, 0x0e, 0x0f, 0xf4, 0xff};
        for (int v : values) {
            PadConsole x = modeFour(0);
            Due.vram(x, 1024 * (v & 14), 2, 0);
            Due.videoRegister(x, 2, v);
            x.picture(1);
            span(x, "of the first name, register 2 " + v, 0, 0, 7, 4, 1);
        }
    }

    /** "with 224 or 240 at 4096 * (register 2 / 4 modulo 4) + 1792". */
    private static void tallNamesBegin() {
        int[] values = {0x00, 0x03, 0x04, 0x0b, 0x0c, 0x0f, 0xff};
        for (int v : values) {
            for (int tall = 0; tall < 2; tall++) {
                PadConsole x = modeFour(0);
                Due.vram(x, 4096 * (v / 4 % 4) + 1792, 2, 0);
                Due.videoRegister(x, 0, 6);
                Due.videoRegister(x, 1, tall == 0 ? 0x50 : 0x48);
                Due.videoRegister(x, 2, v);
                x.picture(1);
                span(x, "of the first tall name, register 2 " + v, 0, 0, 7, 4, 1);
            }
        }
    }

    /** "bits 0 .. 8 the TILE": 0 and 511, of which the last one lies under the sprites' table. */
    private static void firstAndLastTile() {
        PadConsole x = modeFour(0);
        Due.videoRegister(x, 5, 0xfd);
        Due.vram(x, 0x3e00, 208);
        int[] last = new int[32];
        last[0] = 0x80;
        last[31] = 0x01;
        Due.vram(x, 16384 - 32, last);
        Due.vram(x, 0x3800, 0xff, 0x01, 0xff, 0x0f, 0x00, 0xf0);
        x.picture(1);
        Due.be("the first dot of tile 511", x.dot(0, 0), 2);
        Due.be("its last dot", x.dot(7, 7), 9);
        Due.be("the first dot of tile 511, turned both ways, 16 more", x.dot(8, 0), 16 + 9);
        Due.be("its last dot", x.dot(15, 7), 16 + 2);
        Due.be("a dot of tile 0, with bits that mean nothing", x.dot(16, 0), 1);
    }

    /** "With bit 5 of register 0 the dots 0 .. 7 are BACK at last." */
    private static void leftEightDots() {
        for (int bit = 0; bit < 2; bit++) {
            PadConsole x = modeFour(0);
            Due.vram(x, 0x3800, 2, 0, 2, 0);
            sprite(x, 0, 255, 4, 2);
            sprite(x, 1, 255, 5, 2);
            sprite(x, 2, 208, 0, 0);
            Due.videoRegister(x, 0, 4 | bit << 5);
            x.step(19 * 10);
            Due.be("dot(0, 0), bit " + bit, x.dot(0, 0), bit == 1 ? 22 : 4);
            Due.be("dot(7, 0), bit " + bit, x.dot(7, 0), bit == 1 ? 22 : 20);
            Due.be("dot(8, 0), bit " + bit, x.dot(8, 0), 20);
            Due.be("dot(13, 0), bit " + bit, x.dot(13, 0), 4);
            Due.be("dot(7, 8), bit " + bit, x.dot(7, 8), bit == 1 ? 22 : 1);
            Due.be("chip(15), where two meet there", x.chip(15), 0x20);
        }
    }

    /** "It is on L if (L - UP - 1) modulo 256 is below its rows (twice)." "an UP of 208 ends all" with HEIGHT 192. */
    private static void spritesUpAndDown() {
        int[] ups = {0, 1, 100, 182, 183, 184, 190, 191, 207, 208, 209, 247, 248, 249, 254, 255};
        for (int shape = 0; shape < 4; shape++) {
            int rows = (shape & 2) != 0 ? 16 : 8;
            if ((shape & 1) != 0) {
                rows *= 2;
            }
            for (int up : ups) {
                PadConsole x = modeFour(0);
                Due.vram(x, 96, 255, 0, 0, 0, 255, 0, 0, 0, 255, 0, 0, 0, 255, 0, 0, 0);
                Due.vram(x, 112, 255, 0, 0, 0, 255, 0, 0, 0, 255, 0, 0, 0, 255, 0, 0, 0);
                Due.videoRegister(x, 1, 0x40 | shape);
                sprite(x, 0, up, 20, 2);
                sprite(x, 1, 208, 0, 0);
                x.picture(1);
                int[] lines = {0, 1, up, up + 1, up + 8, up + 9, up + rows, up + rows + 1, up + rows - 256, up + rows - 255};
                for (int line : lines) {
                    if (line >= 0 && line < 192) {
                        int in = (line - up - 1) & 255;
                        boolean second = in >= rows / 2 && (shape & 2) != 0;
                        int due = up != 208 && in < rows ? second ? 18 : 20 : 1;
                        Due.be("dot(20, " + line + ") of UP " + up + ", shape " + shape, x.dot(20, line), due);
                    }
                }
            }
        }
    }

    /** "with HEIGHT 192 an UP of 208 ends all", with others it is one like others. */
    private static void spritesOfTallPictures() {
        int[] registers = {0x50, 0x48};
        int[] heights = {224, 240};
        for (int i = 0; i < 2; i++) {
            PadConsole x = modeFour(0);
            int[] ups = new int[64];
            java.util.Arrays.fill(ups, 245);
            ups[0] = 208;
            ups[1] = heights[i] - 2;
            Due.vram(x, 0x3f00, ups);
            Due.vram(x, 0x3f80, 20, 2, 40, 2);
            Due.videoRegister(x, 0, 6);
            Due.videoRegister(x, 1, registers[i]);
            Due.videoRegister(x, 2, 0xf3);
            x.picture(1);
            Due.be("dot(20, 208)", x.dot(20, 208), 1);
            Due.be("dot(20, 209), of UP 208", x.dot(20, 209), 20);
            Due.be("dot(20, 216), of UP 208", x.dot(20, 216), 20);
            Due.be("dot(20, 217)", x.dot(20, 217), 1);
            Due.be("the last line, of a sprite behind UP 208", x.dot(40, heights[i] - 1), 20);
            Due.be("the line above the last", x.dot(40, heights[i] - 2), 1);
        }
    }

    /** "Their dots lie from LEFT on, 8 less with bit 3 of register 0; those outside 0 .. 255 do not count." */
    private static void spritesLeftAndRight() {
        int[] lefts = {0, 1, 7, 8, 9, 239, 240, 247, 248, 249, 254, 255};
        for (int less = 0; less < 2; less++) {
            for (int twice = 0; twice < 2; twice++) {
                for (int left : lefts) {
                    PadConsole x = modeFour(0);
                    Due.videoRegister(x, 0, 4 | less << 3);
                    Due.videoRegister(x, 1, 0x40 | twice);
                    sprite(x, 0, 49, left, 2);
                    sprite(x, 1, 208, 0, 0);
                    x.step(19 * 52);
                    int from = left - 8 * less;
                    int to = Math.min(255, from + (8 << twice) - 1);
                    span(x, "of LEFT " + left + ", " + less + ", " + twice, 50, Math.max(0, from), to, 20, 1);
                    Due.be("dot(" + (from < 128 ? 255 : 0) + ", 50)", x.dot(from < 128 ? 255 : 0, 50), 1);
                }
            }
        }
    }

    /** "The first eight on L count; with a ninth OVER is 1, and it is the end." */
    private static void eightSpritesAndNine() {
        for (int many = 7; many <= 10; many++) {
            PadConsole x = modeFour(0);
            for (int n = 0; n < many; n++) {
                sprite(x, 2 * n, 49, 20 * n, 2);
                // One between each two that is not on the line.
                sprite(x, 2 * n + 1, 100, 5, 0);
            }
            sprite(x, 2 * many, 208, 0, 0);
            sprite(x, 2 * many + 1, 49, 250, 2);
            x.step(19 * 50);
            Due.be("chip(15), above them", x.chip(15), 0);
            x.step(19);
            Due.be("chip(15) with " + many, x.chip(15), many > 8 ? 0x40 : 0);
            for (int n = 0; n < many; n++) {
                Due.be("dot of sprite " + n + " of " + many, x.dot(20 * n, 50), n < 8 ? 20 : 1);
            }
            Due.be("dot of one behind UP 208", x.dot(250, 50), 1);
        }
        // The ninth may be the last of the 64, and those that have no dots count.
        PadConsole y = modeFour(0);
        int[] ups = new int[64];
        java.util.Arrays.fill(ups, 100);
        for (int n = 0; n < 8; n++) {
            ups[7 * n] = 49;
        }
        ups[63] = 49;
        Due.vram(y, 0x3f00, ups);
        y.step(19 * 51);
        Due.be("chip(15), the ninth being sprite 63", y.chip(15), 0x40);
        Due.be("in(0xbf)", y.in(0xbf), 0x40);
        y.step(19);
        Due.be("chip(15), the next line", y.chip(15), 0x40);
    }

    /** "Where two lie, HIT is 1, and the first sprite's counts." Only dots above 0, inside, of the first eight. */
    private static void spritesThatMeet() {
        // LEFT of one and of the other, bit 3 of register 0, tile of the second, HIT. Tile 1 has dots at its ends alone.
        int[][] cases = {
            {20, 27, 0, 2, 1}, {20, 28, 0, 2, 0}, {27, 20, 0, 2, 1}, {28, 20, 0, 2, 0}, {20, 20, 0, 2, 1},
            {255, 255, 0, 2, 1}, {249, 255, 0, 2, 1}, {248, 255, 0, 2, 1}, {247, 255, 0, 2, 0},
            {0, 0, 8, 2, 0}, {0, 1, 8, 2, 0}, {1, 1, 8, 2, 1}, {1, 0, 8, 2, 0},
            {20, 14, 0, 1, 1}, {20, 13, 0, 1, 1}, {20, 12, 0, 1, 0}, {20, 27, 0, 1, 1}, {20, 20, 0, 0, 0},
        };
        for (int i = 0; i < cases.length; i++) {
            int[] c = cases[i];
            PadConsole x = modeFour(0);
            Due.videoRegister(x, 0, 4 | c[2]);
            sprite(x, 0, 49, c[0], 2);
            // The second one on one line alone, its last.
            sprite(x, 1, 43, c[1], c[3]);
            sprite(x, 2, 208, 0, 0);
            x.step(19 * 50);
            Due.be("chip(15) above them", x.chip(15), 0);
            x.step(19);
            Due.be("chip(15) of case " + i, x.chip(15), 0x20 * c[4]);
        }
        PadConsole y = modeFour(0);
        for (int n = 0; n < 8; n++) {
            sprite(y, n, 49, 20 * n, 2);
        }
        sprite(y, 8, 49, 0, 2);
        sprite(y, 9, 208, 0, 0);
        y.step(19 * 51);
        Due.be("chip(15), the ninth lying on the first", y.chip(15), 0x40);
        // The first one's dot counts.
        PadConsole z = modeFour(0);
        sprite(z, 0, 49, 20, 1);
        sprite(z, 1, 49, 20, 2);
        sprite(z, 2, 208, 0, 0);
        z.step(19 * 51);
        Due.be("dot(20, 50), of the first", z.dot(20, 50), 18);
        Due.be("dot(21, 50), of the second where the first is 0", z.dot(21, 50), 20);
        Due.be("dot(27, 50), of the first", z.dot(27, 50), 19);
    }

    /** "with bit 1 of register 1 it has 16 rows (the tile's number even, then the next one)". */
    private static void spritesOfSixteenRows() {
        int[] tiles = {2, 3, 254, 255};
        for (int tile : tiles) {
            for (int more = 0; more < 2; more++) {
                PadConsole x = modeFour(0);
                // Names to where they do no harm, the sprites' table to the middle.
                Due.videoRegister(x, 2, 0xf5);
                Due.videoRegister(x, 5, 0x21);
                Due.videoRegister(x, 6, more == 1 ? 0xff : 0xfb);
                Due.videoRegister(x, 1, 0x42);
                int at = 32 * ((tile & ~1) + 256 * more);
                int[] rows = new int[64];
                rows[0] = 0x80;
                rows[28] = 0x40;
                rows[32] = 0x20;
                rows[60] = 0x10;
                Due.vram(x, at, rows);
                Due.vram(x, 0x1000, 49, 208);
                Due.vram(x, 0x1080, 20, tile);
                x.step(19 * 70);
                int[] lines = {50, 57, 58, 65};
                for (int i = 0; i < 4; i++) {
                    Due.be("dot of tile " + tile + ", " + more + " on line " + lines[i], x.dot(20 + i, lines[i]), 18);
                    Due.be("dot beside it", x.dot(20 + (i + 1) % 4, lines[i]) == 18, false);
                }
                Due.be("dot(20, 66)", x.dot(20, 66) == 18, false);
            }
        }
    }

    /** "it stands there unless the tile's dot is above 0 (modulo 16) and AHEAD." */
    private static void spritesBehindTiles() {
        // Names: tile, its upper byte (bit 4 AHEAD, bit 3 16 more).
        int[][] cases = {{0, 0}, {2, 0}, {0, 0x10}, {2, 0x10}, {0, 0x18}, {2, 0x18}, {0, 0x08}, {2, 0x08}};
        for (int i = 0; i < cases.length; i++) {
            PadConsole x = modeFour(0);
            Due.vram(x, 0x3800 + 4, cases[i][0], cases[i][1]);
            sprite(x, 0, 255, 16, 1);
            sprite(x, 1, 208, 0, 0);
            x.step(19 * 2);
            boolean hidden = cases[i][0] == 2 && (cases[i][1] & 0x10) != 0;
            int tile = (cases[i][0] == 2 ? 4 : 1) + ((cases[i][1] & 8) != 0 ? 16 : 0);
            Due.be("the first dot of case " + i, x.dot(16, 0), hidden ? tile : 18);
            Due.be("the second dot of case " + i, x.dot(17, 0), tile);
            Due.be("the last dot of case " + i, x.dot(23, 0), hidden ? tile : 19);
        }
    }

    /** "S is 256 * (register 5 / 2 modulo 64)". */
    private static void spriteTables() {
        int[] values = {0x20, 0x21, 0x7e, 0x7f, 0xa0, 0xfe, 0xff};
        for (int v : values) {
            PadConsole x = modeFour(0);
            int s = 256 * (v / 2 % 64);
            Due.vram(x, 0x3f00, 208);
            Due.vram(x, s, 49, 208);
            Due.vram(x, s + 128, 20, 2);
            Due.videoRegister(x, 5, v);
            x.step(19 * 51);
            span(x, "of a sprite, register 5 " + v, 50, 20, 27, 20, 1);
        }
    }

    /** "the CRAM byte at the number, the byte modulo 64; of a handy console the two bytes .. (modulo 4096)". */
    private static void coloursAreModulo64() {
        int[] values = {0, 63, 64, 127, 128, 192, 255};
        for (int v : values) {
            PadConsole x = modeFour(0);
            Due.videoRegister(x, 7, 15);
            Due.videoRegister(x, 1, 0);
            Due.cram(x, 31, v);
            x.step(19 * 2);
            Due.be("colour of " + v, x.dot(0, 0), v % 64);
            Due.be("chip(63), the byte itself", x.chip(63), v);
            PadConsole y = modeFour(2);
            Due.videoRegister(y, 7, 15);
            Due.videoRegister(y, 1, 0);
            Due.cram(y, 62, 0xa5, v);
            y.step(19 * 26);
            Due.be("colour of " + v + " of a handy console", y.dot(0, 0), 0xa5 + v % 16 * 256);
        }
    }

    /** Modes 0 .. 3: names at 0x1800, patterns at 0x800, colours at 0x2000, sprites at 0x3f00, their bytes at 0x3000. */
    private static PadConsole old(int register0, int register1) {
        PadConsole x = new PadConsole(0);
        Due.idle(x);
        Due.videoRegister(x, 0, register0);
        Due.videoRegister(x, 1, register1 | 0x40);
        Due.videoRegister(x, 2, 6);
        Due.videoRegister(x, 3, 0x80);
        Due.videoRegister(x, 4, 1);
        Due.videoRegister(x, 5, 0x7e);
        Due.videoRegister(x, 6, 6);
        Due.videoRegister(x, 7, 4);
        Due.vram(x, 0x3f00, 208);
        Due.vram(x, 0x3000, 255, 255, 255, 255, 255, 255, 255, 255);
        return x;
    }

    /** BACK is 16 there, colour 7 is 60. */
    private static void oldSpritesUpAndDown() {
        int[] ups = {0, 1, 182, 183, 184, 190, 191, 207, 208, 209, 247, 248, 249, 255};
        for (int twice = 0; twice < 2; twice++) {
            for (int up : ups) {
                PadConsole x = old(0, twice);
                Due.vram(x, 0x3f00, up, 20, 0, 7, 208);
                x.picture(1);
                int rows = 8 << twice;
                int[] lines = {0, 1, up, up + 1, up + rows, up + rows + 1, up + rows - 256, up + rows - 255};
                for (int line : lines) {
                    if (line >= 0 && line < 192) {
                        boolean on = up != 208 && (line - up - 1 & 255) < rows;
                        Due.be("dot(20, " + line + ") of UP " + up, x.dot(20, line), on ? 60 : 16);
                    }
                }
            }
        }
    }

    /** "LEFT (32 less with bit 7 of the fourth)"; "Dots outside 0 .. 255 do not count." */
    private static void oldSpritesLeftAndRight() {
        int[] lefts = {0, 1, 24, 25, 31, 32, 33, 247, 248, 249, 255};
        for (int less = 0; less < 2; less++) {
            for (int twice = 0; twice < 2; twice++) {
                for (int left : lefts) {
                    PadConsole x = old(0, twice);
                    Due.vram(x, 0x3f00, 49, left, 0, 0x77 & ~0x80 | less << 7, 208);
                    x.step(19 * 51);
                    int from = left - 32 * less;
                    int to = Math.min(255, from + (8 << twice) - 1);
                    if (to < 0) {
                        Due.be("dot(0, 50) of LEFT " + left, x.dot(0, 50), 16);
                    } else {
                        span(x, "of LEFT " + left + ", " + less + ", " + twice, 50, Math.max(0, from), to, 60, 16);
                    }
                    Due.be("dot(" + (from < 128 ? 255 : 0) + ", 50)", x.dot(from < 128 ? 255 : 0, 50), 16);
                }
            }
        }
    }

    /** "the first four count; with a fifth: if OVER is 0, it is 1 and FIFTH is its number; it is the end." */
    private static void fourSpritesAndFive() {
        for (int many = 3; many <= 6; many++) {
            PadConsole x = old(0, 0);
            for (int n = 0; n < many; n++) {
                Due.vram(x, 0x3f00 + 8 * n, 49, 20 * n, 0, 7, 100, 5, 0, 7);
            }
            Due.vram(x, 0x3f00 + 8 * many, 208, 0, 0, 0, 49, 250, 0, 7);
            x.step(19 * 50);
            Due.be("chip(15), above them", x.chip(15), 0);
            x.step(19);
            Due.be("chip(15) with " + many, x.chip(15), many > 4 ? 0x40 | 8 : 0);
            for (int n = 0; n < many; n++) {
                Due.be("dot of sprite " + n + " of " + many, x.dot(20 * n, 50), n < 4 ? 60 : 16);
            }
            Due.be("dot of one behind UP 208", x.dot(250, 50), 16);
        }
        // The fifth may be the last of the 32; a sixth does not change FIFTH, nor does another fifth.
        PadConsole y = old(0, 0);
        int[] all = new int[128];
        for (int n = 0; n < 32; n++) {
            all[4 * n] = n < 4 || n == 31 ? 49 : n == 20 ? 56 : 100;
            all[4 * n + 1] = n;
        }
        Due.vram(y, 0x3f00, all);
        y.step(19 * 51);
        Due.be("chip(15), the fifth being sprite 31", y.chip(15), 0x40 | 0x20 | 31);
        y.step(19 * 7);
        Due.be("chip(15), another fifth with OVER 1", y.chip(15), 0x40 | 0x20 | 31);
        PadConsole z = old(0, 0);
        Due.vram(z, 0x3f00, all);
        z.step(19 * 57);
        z.in(0xbf);
        z.step(19);
        Due.be("chip(15), sprite 20 being the fifth of line 57", z.chip(15), 0x40 | 0x20 | 20);
    }

    /** "Where two have a 1 (also of colour 0): HIT is 1. The first sprite with a 1 and a colour above 0 stands there." */
    private static void oldSpritesThatMeet() {
        // LEFT and fourth byte of one and of the other, HIT.
        int[][] cases = {
            {20, 7, 27, 7, 1}, {20, 7, 28, 7, 0}, {20, 0, 27, 0, 1}, {20, 0, 28, 0, 0}, {255, 7, 255, 7, 1},
            {0, 0x87, 0, 0x87, 0}, {24, 0x87, 24, 0x87, 0}, {25, 0x87, 25, 0x87, 1}, {25, 0x80, 25, 0x80, 1},
            {52, 0x87, 20, 7, 1}, {52, 0x87, 28, 7, 0}, {52, 0x87, 12, 7, 0}, {52, 0x87, 13, 7, 1},
        };
        for (int i = 0; i < cases.length; i++) {
            int[] c = cases[i];
            PadConsole x = old(0, 0);
            Due.vram(x, 0x3f00, 49, c[0], 0, c[1], 43, c[2], 0, c[3], 208);
            x.step(19 * 50);
            Due.be("chip(15) above them", x.chip(15), 0);
            x.step(19);
            Due.be("chip(15) of case " + i, x.chip(15), 0x20 * c[4]);
        }
        PadConsole y = old(0, 0);
        Due.vram(y, 0x3f00, 49, 20, 0, 0, 49, 20, 0, 11, 49, 20, 0, 7, 208);
        y.step(19 * 51);
        Due.be("dot(20, 50), of the first with a colour", y.dot(20, 50), 15);
        PadConsole z = old(0, 0);
        Due.vram(z, 0x3f00, 49, 0, 0, 7, 49, 20, 0, 7, 49, 40, 0, 7, 49, 60, 0, 7, 49, 0, 0, 7, 208);
        z.step(19 * 51);
        Due.be("chip(15), the fifth lying on the first", z.chip(15), 0x40 | 4);
    }

    /** "16 by 16, PATTERN's two lowest bits taken as 0, its bytes 0 .. 15 the left half, then the right one". */
    private static void largeOldSprites() {
        for (int pattern = 252; pattern < 256; pattern++) {
            PadConsole x = old(0, 2);
            int[] bytes = new int[32];
            bytes[0] = 0x80;
            bytes[15] = 0x01;
            bytes[16] = 0x80;
            bytes[31] = 0x01;
            Due.vram(x, 0x3000 + 8 * 252, bytes);
            Due.vram(x, 0x3f00, 49, 245, pattern, 7, 208);
            x.step(19 * 67);
            Due.be("the first dot of the left half", x.dot(245, 50), 60);
            Due.be("the first dot of the right half", x.dot(253, 50), 60);
            Due.be("the last dot of the left half", x.dot(252, 65), 60);
            Due.be("dot(246, 50)", x.dot(246, 50), 16);
            Due.be("dot(253, 65)", x.dot(253, 65), 16);
            Due.be("dot(0, 65), outside", x.dot(0, 65), 16);
            Due.be("dot(245, 66), below it", x.dot(245, 66), 16);
            Due.be("dot(245, 49), above it", x.dot(245, 49), 16);
        }
    }

    /** "the byte at 64 * register 3 + t / 8": of t 7 and 8, 255. */
    private static void coloursOfModeZero() {
        PadConsole x = old(0, 0);
        Due.videoRegister(x, 3, 0xff);
        Due.vram(x, 64 * 255, 0x7b, 0xb7);
        Due.vram(x, 64 * 255 + 31, 0x2f);
        Due.vram(x, 0x1800, 0, 7, 8, 15, 255, 247);
        int[] t = {0, 7, 8, 15, 255};
        for (int k : t) {
            Due.vram(x, 0x800 + 8 * k, 0xf0);
        }
        // The sprites' table would be there as well.
        Due.videoRegister(x, 5, 0x7e);
        Due.vram(x, 0x3f00, 208);
        x.picture(1);
        int[] left = {60, 60, 15, 15, 8};
        int[] right = {15, 15, 60, 60, 63};
        for (int i = 0; i < 5; i++) {
            Due.be("dot(" + 8 * i + ", 0) of t " + t[i], x.dot(8 * i, 0), left[i]);
            Due.be("dot(" + (8 * i + 3) + ", 0) of t " + t[i], x.dot(8 * i + 3, 0), left[i]);
            Due.be("dot(" + (8 * i + 4) + ", 0) of t " + t[i], x.dot(8 * i + 4, 0), right[i]);
            Due.be("dot(" + (8 * i + 7) + ", 0) of t " + t[i], x.dot(8 * i + 7, 0), right[i]);
        }
    }

    /** "256 * (L / 64) more": lines 63 and 64, 127 and 128, 191. */
    private static void thirdsOfModeTwo() {
        PadConsole x = old(2, 0);
        Due.videoRegister(x, 3, 0xff);
        Due.videoRegister(x, 4, 3);
        int[] lines = {0, 63, 64, 127, 128, 191};
        int[] pairs = {0x70, 0xb0, 0x20};
        for (int line : lines) {
            Due.vram(x, 0x1800 + 32 * (line / 8), 200);
        }
        for (int third = 0; third < 3; third++) {
            Due.vram(x, 2048 * third + 8 * 200, 0x80, 0, 0, 0, 0, 0, 0, 0x40);
            Due.vram(x, 8192 + 2048 * third + 8 * 200, pairs[third], 0, 0, 0, 0, 0, 0, pairs[third]);
        }
        x.picture(1);
        int[] due = {60, 60, 15, 15, 8, 8};
        for (int i = 0; i < lines.length; i++) {
            int first = lines[i] % 8 == 0 ? 0 : 1;
            Due.be("dot(" + first + ", " + lines[i] + ")", x.dot(first, lines[i]), due[i]);
            Due.be("dot(" + (1 - first) + ", " + lines[i] + "), colour 0", x.dot(1 - first, lines[i]), 16);
        }
    }

    /** "u is t and (256 * (register 4 modulo 4) + 255), w is t and (8 * (register 3 modulo 128) + 7)". */
    private static void masksOfModeTwo() {
        int[] fours = {0, 1, 2, 3, 4, 7, 0xf8};
        int[] threes = {0x80, 0xff, 0xe0, 0xc0, 0x9f, 0xbf, 0x81};
        for (int four : fours) {
            for (int three : threes) {
                int t = 0xa5 + 512;
                int u = t & 256 * (four % 4) + 255;
                int w = t & 8 * (three % 128) + 7;
                int patterns = 8192 * (four / 4 % 2) + 8 * u;
                int colours = 8192 + 8 * w;
                if (patterns == colours) {
                    continue;
                }
                PadConsole x = old(2, 0);
                Due.videoRegister(x, 3, three);
                Due.videoRegister(x, 4, four);
                Due.vram(x, 0x1800 + 32 * 16, 0xa5);
                Due.vram(x, patterns, 0xf0);
                Due.vram(x, colours, 0x7b);
                x.step(19 * 130);
                Due.be("dot(3, 128) with " + four + ", " + three, x.dot(3, 128), 60);
                Due.be("dot(4, 128) with " + four + ", " + three, x.dot(4, 128), 15);
            }
        }
        // Bit 7 of register 3: colours from 0 on.
        PadConsole x = old(2, 0);
        Due.videoRegister(x, 3, 0x7f);
        Due.videoRegister(x, 4, 7);
        Due.vram(x, 0x1800, 0xff);
        Due.vram(x, 8192 + 8 * 255, 0x80);
        Due.vram(x, 8 * 255, 0x7b);
        x.step(19 * 2);
        Due.be("dot(0, 0) with colours from 0 on", x.dot(0, 0), 60);
        Due.be("dot(1, 0) with colours from 0 on", x.dot(1, 0), 15);
    }

    /** "the high four bits, for i modulo 8 from 4 on the low ones, of the byte at G + 8 * t + 2 * (L / 8 modulo 4) + L / 4 modulo 2". */
    private static void blocksOfModeThree() {
        PadConsole x = old(0, 8);
        Due.videoRegister(x, 4, 0xff);
        Due.videoRegister(x, 5, 0x60);
        for (int row = 0; row < 24; row++) {
            Due.vram(x, 0x1800 + 32 * row + 31, 255);
        }
        Due.vram(x, 0x3800 + 8 * 255, 0x79, 0x2b, 0xc3, 0x56, 0x8e, 0x97, 0xb2, 0x3c);
        int[] bytes = {0x79, 0x2b, 0xc3, 0x56, 0x8e, 0x97, 0xb2, 0x3c};
        int[] fixed = {0, 0, 8, 12, 16, 48, 1, 60, 2, 3, 5, 15, 4, 51, 21, 63};
        Due.vram(x, 0x3000, 208);
        x.picture(1);
        int[] lines = {0, 3, 4, 7, 8, 11, 12, 31, 32, 188, 191};
        for (int line : lines) {
            int b = bytes[line / 4 % 8];
            Due.be("dot(248, " + line + ")", x.dot(248, line), fixed[b / 16]);
            Due.be("dot(251, " + line + ")", x.dot(251, line), fixed[b / 16]);
            Due.be("dot(252, " + line + ")", x.dot(252, line), fixed[b % 16]);
            Due.be("dot(255, " + line + ")", x.dot(255, line), fixed[b % 16]);
        }
    }

    /** "the dots 0 .. 7 and 248 .. 255 are BACK; else with i - 8 = 6 * c + b: .. bit 7 - b". No sprites. */
    private static void signsOfModeOne() {
        PadConsole x = old(0, 0x10);
        Due.videoRegister(x, 2, 15);
        Due.videoRegister(x, 5, 0x20);
        Due.videoRegister(x, 7, 0x75);
        int[] names = new int[40];
        java.util.Arrays.fill(names, 255);
        Due.vram(x, 0x3c00, names);
        Due.vram(x, 0x3c00 + 40 * 23 + 39, 254);
        // Ones in the two bits that do not count, and in the first one.
        Due.vram(x, 0x800 + 8 * 255, 0x83);
        Due.vram(x, 0x800 + 8 * 254 + 7, 0x04);
        for (int n = 0; n < 5; n++) {
            Due.vram(x, 0x1000 + 4 * n, 255, 8, 0, 7);
        }
        x.step(19 * 192);
        // Colours 7 and 5 are 60 and 48.
        Due.be("dot(0, 0)", x.dot(0, 0), 48);
        Due.be("dot(7, 0)", x.dot(7, 0), 48);
        for (int c = 0; c < 40; c++) {
            Due.be("the first dot of sign " + c, x.dot(8 + 6 * c, 0), 60);
            Due.be("the last dot of sign " + c, x.dot(13 + 6 * c, 0), 48);
        }
        Due.be("dot(248, 0)", x.dot(248, 0), 48);
        Due.be("dot(255, 0)", x.dot(255, 0), 48);
        Due.be("the last sign's last dot", x.dot(247, 191), 60);
        Due.be("dot(248, 191)", x.dot(248, 191), 48);
        Due.be("chip(15), without sprites", x.chip(15), 0);
    }
}
