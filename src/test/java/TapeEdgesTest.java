/** The edges of promises 1 to 6 (a new object, feed, grow, patch, load, card), sentence by sentence. */
public final class TapeEdgesTest {
    private static final int FULL = 262656;

    private TapeEdgesTest() {
    }

    public static void main(String[] args) {
        promise1OtherKindsAreKind0();
        promise1NoCartridge();
        promise2FeedTakesOneTo24Bytes();
        promise2TheTapeHasAtMost262656Bytes();
        promise3GrowsByItsOwnBytes();
        promise3GrowsToItsOwnLengthAndToTheEnd();
        promise4PatchesTheFirstAndTheLastEight();
        promise5TheFirst512DoNotCount();
        promise5FewerThan8192();
        promise5NoMultipleOf8192();
        promise5TheTapeIsUsedUp();
        promise5AnErrorLeavesAllElse();
        promise5ACartridgeResetsButKeepsWhatStays();
        promise5TheNextCartridgeHasNothingOfTheOneBefore();
        promise6ALastBankThatIsNotFull();
        promise6HeaderInTheCartridge();
        promise6HeaderBehindThe512();
        promise6DigitsAsTheyAre();
        promise6TheSumGoesRound();
        promise6TheSumEndsWithTheCartridge();
        Due.end("TapeEdgesTest");
    }

    /** "A console of a kind (0 for others than 1, 2)": 262 lines a picture, and a pause. */
    private static void promise1OtherKindsAreKind0() {
        int[] kinds = {Integer.MIN_VALUE, -2, -1, 0, 3, 4, 258, Integer.MAX_VALUE, 1, 2};
        for (int kind : kinds) {
            PadConsole x = new PadConsole(kind);
            Due.idle(x);
            x.step(19 * 261);
            Due.be("chip(20) of kind " + kind, x.chip(20), 261);
            Due.be("look(2) of kind " + kind, x.look(2), 0);
            x.step(19);
            Due.be("chip(20) a line on, of kind " + kind, x.chip(20), kind == 1 ? 262 : 0);
            Due.be("look(2) a line on, of kind " + kind, x.look(2), kind == 1 ? 0 : 1);
            Due.be("pause() of kind " + kind, x.pause(), kind != 2);
            Due.be("in(0) of kind " + kind, x.in(0), kind == 2 ? 192 : 255);
        }
    }

    /** "no cartridge: paging 0 without any byte." */
    private static void promise1NoCartridge() {
        for (int kind = 0; kind < 3; kind++) {
            PadConsole x = new PadConsole(kind);
            int[] addresses = {0, 0x3ff, 0x400, 0x3fff, 0x4000, 0x7fff, 0x8000, 0xa000, 0xbfff};
            for (int a : addresses) {
                x.poke(a, 7);
                Due.be("peek(" + a + ") without a cartridge", x.peek(a), 255);
            }
            Due.be("card(0)", x.card(0), 0);
            Due.be("card(1)", x.card(1), 0);
            Due.be("card(2)", x.card(2), -1);
            for (int what = 3; what < 8; what++) {
                Due.be("card(" + what + ")", x.card(what), 0);
            }
            Due.be("look(7)", x.look(7), 0);
            Due.be("look(5)", x.look(5), 0);
            x.poke(0xfffc, 8);
            x.poke(0xfffd, 9);
            Due.be("look(8), which paging 0 does not write", x.look(8), 0);
            Due.be("look(9), which paging 0 does not write", x.look(9), 0);
            Due.be("peek(0xbfff) with 8 at 0xfffc", x.peek(0xbfff), 255);
        }
    }

    /** "The n lowest bytes of a, b, c (24 in all, those of a first, lowest first) come behind the tape." */
    private static void promise2FeedTakesOneTo24Bytes() {
        for (int n = 1; n <= 24; n++) {
            PadConsole x = new PadConsole(0);
            Due.be("feed(" + n + ", ..)", x.feed(n, 0xf8f7f6f5f4f3f2f1L, 0x00fffefdfcfbfaf9L, 0x1817161514131211L), n);
            Due.be("look(5)", x.look(5), n);
            Due.be("feed(1, ..) behind it", x.feed(1, 0x55, -1, -1), n + 1);
            x.grow(8192);
            x.load();
            for (int i = 0; i < n; i++) {
                int due = i < 15 ? 0xf1 + i : i == 15 ? 0 : 0x11 + i - 16;
                Due.be("peek(" + i + ") of " + n + " bytes", x.peek(i), due);
            }
            Due.be("peek(" + n + ") behind " + n + " bytes", x.peek(n), 0x55);
        }
    }

    /** "The TAPE has at most 262656 bytes, none at first." "IllegalStateException when it would have more than 262656." */
    private static void promise2TheTapeHasAtMost262656Bytes() {
        for (int n = 1; n <= 24; n++) {
            int many = n;
            PadConsole x = new PadConsole(0);
            Due.be("look(5) at first", x.look(5), 0);
            x.feed(1, 3, 0, 0);
            x.grow(FULL - n + 1);
            Due.fail("feed(" + n + ", ..) with a byte too few", Due.STATE, () -> x.feed(many, -1, -1, -1));
            Due.be("look(5) behind it", x.look(5), FULL - n + 1);
            x.load();
            x.feed(1, 3, 0, 0);
            x.grow(FULL - n);
            Due.be("feed(" + n + ", ..) to the end", x.feed(n, -1, -1, -1), FULL);
            Due.fail("feed(1, ..) behind the end", Due.STATE, () -> x.feed(1, 0, 0, 0));
            Due.be("load() of a full tape", x.load(), 0);
            x.poke(0xa000, 15);
            Due.be("peek of the last byte", x.peek(0xbfff), 255);
            Due.be("peek of the first byte that was fed to the end", x.peek(0xc000 - n), 255);
            Due.be("peek of the byte ahead of it", x.peek(0xbfff - n), 3);
        }
    }

    /** "The tape grows to n bytes, by its own bytes from the first one on, again and again: how many it had." */
    private static void promise3GrowsByItsOwnBytes() {
        int[] had = {1, 2, 3, 23, 24};
        for (int n : had) {
            PadConsole x = new PadConsole(0);
            x.feed(n, 0x0807060504030201L, 0x100f0e0d0c0b0a09L, 0x1817161514131211L);
            Due.be("grow by one byte", x.grow(n + 1), n);
            Due.be("look(5)", x.look(5), n + 1);
            Due.be("grow to 8192", x.grow(8192), n + 1);
            x.load();
            for (int i = 0; i < 2 * n + 5; i++) {
                int due = i % (n + 1) == n ? 1 : i % (n + 1) + 1;
                Due.be("peek(" + i + ") of what grew", x.peek(i), due);
            }
            Due.be("peek(8191) of what grew", x.peek(8191), x.peek(8191 % (n + 1)));
        }
    }

    /** n may be what the tape has, and 262656. */
    private static void promise3GrowsToItsOwnLengthAndToTheEnd() {
        PadConsole x = new PadConsole(0);
        x.feed(5, 0x0504030201L, 0, 0);
        Due.be("grow(5) of five bytes", x.grow(5), 5);
        Due.be("look(5) behind it", x.look(5), 5);
        Due.fail("grow(4) of five bytes", Due.ARGUMENT, () -> x.grow(4));
        Due.be("grow(6) of five bytes", x.grow(6), 5);
        Due.be("grow(262655)", x.grow(FULL - 1), 6);
        Due.be("grow(262656)", x.grow(FULL), FULL - 1);
        Due.be("grow(262656) of a full tape", x.grow(FULL), FULL);
        Due.fail("grow(262655) of a full tape", Due.ARGUMENT, () -> x.grow(FULL - 1));
        Due.fail("grow(262657) of a full tape", Due.ARGUMENT, () -> x.grow(FULL + 1));
        Due.be("load()", x.load(), 0);
        int[] six = {1, 2, 3, 4, 5, 1};
        Due.be("peek(0), the tape's byte 512", x.peek(0), six[512 % 6]);
        x.poke(0xa000, 15);
        // The last byte came with the second growing: the tape's first one.
        Due.be("peek of the last byte", x.peek(0xbfff), 1);
        Due.be("peek of the byte ahead of it", x.peek(0xbffe), six[(FULL - 2) % 6]);
    }

    /** "Eight bytes of the tape from a place on become those of v, lowest first." */
    private static void promise4PatchesTheFirstAndTheLastEight() {
        PadConsole x = new PadConsole(0);
        x.feed(8, 0, 0, 0);
        x.patch(0, 0x8877665544332211L);
        x.grow(8192);
        x.load();
        for (int i = 0; i < 16; i++) {
            Due.be("peek(" + i + ") of a tape of eight", x.peek(i), 0x11 * (i % 8 + 1));
        }
        PadConsole y = new PadConsole(0);
        Due.tape(y, FULL, 0);
        y.patch(FULL - 8, 0xff02030405060708L);
        Due.fail("patch(262649, ..) of a full tape", Due.ARGUMENT, () -> y.patch(FULL - 7, -1));
        y.patch(0, -1);
        y.patch(512, 0x80000000000000feL);
        y.patch(505, 0x0100000000000000L);
        y.load();
        // The patch at 505 lies over the first byte of the one at 512.
        Due.be("peek(0)", y.peek(0), 1);
        Due.be("peek(1)", y.peek(1), 0);
        Due.be("peek(7)", y.peek(7), 0x80);
        Due.be("peek(8)", y.peek(8), 0);
        y.poke(0xa000, 15);
        Due.be("peek(0xbff7)", y.peek(0xbff7), 0);
        for (int i = 0; i < 8; i++) {
            Due.be("peek of the last eight", y.peek(0xbff8 + i), i == 7 ? 255 : 8 - i);
        }
    }

    /** "If it has 512 bytes more than a multiple of 16384, its first 512 do not count." 0 is such a multiple. */
    private static void promise5TheFirst512DoNotCount() {
        int[] sizes = {16384 + 511, 16384 + 512, 16384 + 513, 32768 + 512, 49152 + 512, 65536 + 512, 262144 + 512};
        for (int size : sizes) {
            PadConsole x = new PadConsole(0);
            Due.tape(x, size, 0x0101010101010101L);
            x.patch(504, 0x0202020202020202L);
            x.patch(512, 0x0303030303030303L);
            boolean counts = size % 16384 == 512;
            Due.be("load() of " + size + " bytes", x.load(), counts ? 0 : 2);
            Due.be("look(7) of " + size + " bytes", x.look(7), counts ? size - 512 : 0);
            Due.be("peek(0) of " + size + " bytes", x.peek(0), counts ? 3 : 255);
            Due.be("peek(8) of " + size + " bytes", x.peek(8), counts ? 1 : 255);
        }
        PadConsole y = new PadConsole(0);
        Due.tape(y, 512, 7);
        Due.be("load() of 512 bytes, of which none is left", y.load(), 1);
        Due.tape(y, 8192 + 512, 7);
        Due.be("load() of 8704 bytes, which all count", y.load(), 2);
        Due.tape(y, 24576 + 512, 7);
        Due.be("load() of 25088 bytes, which all count", y.load(), 2);
        Due.tape(y, 8192, 7);
        Due.be("load() of 8192 bytes, which all count", y.load(), 0);
        Due.be("peek(0)", y.peek(0), 7);
    }

    /** "1 fewer than 8192 bytes are left", also where these are no multiple of 8192. */
    private static void promise5FewerThan8192() {
        int[] sizes = {1, 2, 511, 512, 513, 4096, 8190, 8191};
        for (int size : sizes) {
            PadConsole x = new PadConsole(0);
            x.feed(1, 9, 0, 0);
            x.grow(size);
            Due.be("load() of " + size + " bytes", x.load(), 1);
            Due.be("look(7)", x.look(7), 0);
        }
        PadConsole y = new PadConsole(0);
        Due.be("load() of no byte", y.load(), 1);
        y.feed(1, 9, 0, 0);
        y.grow(8192);
        Due.be("load() of 8192 bytes", y.load(), 0);
        Due.be("look(7) of 8192 bytes", y.look(7), 8192);
        Due.be("card(1) of 8192 bytes", y.card(1), 1);
    }

    /** "2 these are no multiple of 8192." */
    private static void promise5NoMultipleOf8192() {
        int[] sizes = {8193, 12288, 16383, 16385, 24575, 24577, 262143, 262145, 262655};
        for (int size : sizes) {
            PadConsole x = new PadConsole(0);
            x.feed(1, 9, 0, 0);
            x.grow(size);
            Due.be("load() of " + size + " bytes", x.load(), 2);
            Due.be("look(7)", x.look(7), 0);
        }
        int[] whole = {8192, 16384, 24576, 32768, 253952, 262144};
        for (int size : whole) {
            PadConsole x = new PadConsole(0);
            x.feed(1, 9, 0, 0);
            x.grow(size);
            Due.be("load() of " + size + " bytes", x.load(), 0);
            Due.be("look(7)", x.look(7), size);
            Due.be("card(1)", x.card(1), (size + 16383) / 16384);
        }
    }

    /** "The tape, which is used up" .. "(the tape is used up then, too)". */
    private static void promise5TheTapeIsUsedUp() {
        int[] sizes = {100, 8193, 8192};
        int[] errors = {1, 2, 0};
        for (int i = 0; i < 3; i++) {
            PadConsole x = new PadConsole(0);
            x.feed(1, 9, 0, 0);
            x.grow(sizes[i]);
            Due.be("load()", x.load(), errors[i]);
            Due.be("look(5) behind load()", x.look(5), 0);
            Due.fail("grow(5) behind load()", Due.STATE, () -> x.grow(5));
            Due.fail("patch(0, ..) behind load()", Due.ARGUMENT, () -> x.patch(0, 0));
            Due.be("load() again", x.load(), 1);
            Due.be("feed(2, ..) behind load()", x.feed(2, 0x0504, 0, 0), 2);
            x.grow(8192);
            Due.be("load() of the next one", x.load(), 0);
            Due.be("peek(0) of the next one", x.peek(0), 4);
            Due.be("peek(1) of the next one", x.peek(1), 5);
            Due.be("peek(2) of the next one", x.peek(2), 4);
        }
    }

    /** "Or its error, and all else stays". */
    private static void promise5AnErrorLeavesAllElse() {
        int[] sizes = {10, 512, 8191, 8193, 12288, 262655};
        int[] errors = {1, 1, 1, 2, 2, 2};
        for (int i = 0; i < sizes.length; i++) {
            PadConsole x = Due.busy(0);
            x.grow(sizes[i]);
            Due.be("load() of " + sizes[i] + " bytes", x.load(), errors[i]);
            x.feed(10, 0, 0, 0);
            Due.same("behind a load() of " + sizes[i] + " bytes", x, Due.busy(0));
            x.restore();
            Due.be("register(19) behind restore()", x.register(19) >> 8, 0xc0);
        }
    }

    /** "is the cartridge: 0, and RESET; RAM is 0s; nothing is saved." */
    private static void promise5ACartridgeResetsButKeepsWhatStays() {
        PadConsole x = Due.busy(2);
        PadConsole before = Due.busy(2);
        x.grow(8192);
        Due.be("load()", x.load(), 0);
        for (int k = 0; k < 27; k++) {
            Due.be("register(" + k + ") behind load()", x.register(k), k == 18 ? 0xdff0 : 0);
        }
        for (int k = 0; k < 26; k++) {
            Due.be("chip(" + k + ") behind load()", x.chip(k), k == 23 ? 192 : 0);
        }
        int[] ram = {0xc000, 0xc001, 0xd003, 0xdffc, 0xdfff, 0xe000, 0xffff};
        for (int a : ram) {
            Due.be("peek(" + a + ") behind load()", x.peek(a), 0);
        }
        int[] stay = {0, 1, 2, 3, 4, 6, 16, 17, 18};
        for (int k : stay) {
            Due.be("look(" + k + ") behind load()", x.look(k), before.look(k));
        }
        Due.be("look(5) behind load()", x.look(5), 0);
        Due.be("look(8) behind load()", x.look(8), 0);
        Due.be("look(11) behind load()", x.look(11), 2);
        Due.be("look(12) behind load()", x.look(12), 0);
        Due.be("look(15) behind load()", x.look(15), 0);
        Due.be("battery(0) behind load()", x.battery(0), 21);
        Due.be("in(0) behind load(), START", x.in(0), 64);
        Due.be("in(2) behind load()", x.in(2), 255);
        Due.be("in(0xdc) behind load(), the pads", x.in(0xdc), before.in(0xdc));
        Due.be("sound(18) behind load()", x.sound(18), 255);
        Due.be("row(20) behind load(), the picture", x.row(20), before.row(20));
        Due.be("trace(0) behind load()", x.trace(0), before.trace(0));
        Due.be("text(0) behind load()", x.text(0), before.text(0));
        Due.be("hear() behind load()", x.hear(), before.hear());
        Due.be("mix() behind load()", x.mix(), before.mix());
    }

    /** The cartridge's bytes are those that are left, and none of the tape's or the cartridge's before. */
    private static void promise5TheNextCartridgeHasNothingOfTheOneBefore() {
        PadConsole x = new PadConsole(0);
        Due.tape(x, 65536, 0x1111111111111111L);
        x.patch(0x7ff0, Due.TMR_SEGA);
        x.patch(0x7fe6, 0xffff0001L);
        x.load();
        Due.be("card(0) of the first", x.card(0), 2);
        Due.be("card(2) of the first", x.card(2), 0x7ff0);
        Due.tape(x, 8192, 0x2222222222222222L);
        x.patch(0, 0x3333333333333333L);
        Due.be("peek(0) ahead of the next load()", x.peek(0), 0x11);
        Due.be("peek(9) ahead of the next load()", x.peek(9), 0x11);
        x.load();
        Due.be("peek(0) of the second", x.peek(0), 0x33);
        Due.be("peek(8) of the second", x.peek(8), 0x22);
        Due.be("peek(8191) of the second", x.peek(8191), 0x22);
        Due.be("peek(8192), beyond its end", x.peek(8192), 255);
        Due.be("peek(0xbfff), beyond its end", x.peek(0xbfff), 255);
        Due.be("card(0) of the second", x.card(0), 0);
        Due.be("card(1) of the second", x.card(1), 1);
        Due.be("card(2) of the second", x.card(2), -1);
        Due.be("card(7) of the second", x.card(7), 0);
        Due.be("look(11) of the second", x.look(11), 2);
        Due.tape(x, 24576, 0x4444444444444444L);
        x.load();
        Due.be("peek(0) of the third", x.peek(0), 0x44);
        Due.be("peek(0x5fff) of the third", x.peek(0x5fff), 0x44);
        Due.be("peek(0x6000), beyond its end", x.peek(0x6000), 255);
        Due.be("peek(0x7ff0), beyond its end", x.peek(0x7ff0), 255);
        Due.be("card(2) of the third", x.card(2), -1);
        Due.be("card(1) of the third", x.card(1), 2);
    }

    /** "a last one that is not full is filled with 255s, which are none of the cartridge's." */
    private static void promise6ALastBankThatIsNotFull() {
        PadConsole x = new PadConsole(0);
        Due.tape(x, 57344, 0x0101010101010101L);
        x.patch(0x7ff0, Due.TMR_SEGA);
        x.patch(0x7ff8, 0);
        x.load();
        Due.be("card(1)", x.card(1), 4);
        Due.be("look(7)", x.look(7), 57344);
        Due.be("card(7), without the 255s", x.card(7), 0x7ff0 + 57344 - 32768);
        x.poke(0xffff, 3);
        Due.be("peek(0x9fff), the last byte", x.peek(0x9fff), 1);
        Due.be("peek(0xa000), behind it", x.peek(0xa000), 255);
        Due.be("peek(0xbfff), the bank's last", x.peek(0xbfff), 255);
        x.poke(0xffff, 4);
        Due.be("peek(0xa000) of bank 4 modulo 4", x.peek(0xa000), 1);
    }

    /** "the first of the places 0x7ff0, 0x3ff0, 0x1ff0 where (in the cartridge) the first eight of them are .." */
    private static void promise6HeaderInTheCartridge() {
        int[] sizes = {8192, 16384, 24576, 32768, 40960, 49152, 65536};
        int[] places = {0x1ff0, 0x3ff0, 0x3ff0, 0x7ff0, 0x7ff0, 0x7ff0, 0x7ff0};
        for (int i = 0; i < sizes.length; i++) {
            PadConsole x = new PadConsole(0);
            // Headers at all three places in the cartridge ahead, whose bytes must not be found again.
            Due.tape(x, 32768, Due.TMR_SEGA);
            x.load();
            Due.tape(x, sizes[i], 0);
            int[] all = {0x1ff0, 0x3ff0, 0x7ff0};
            for (int place : all) {
                if (place + 16 <= sizes[i]) {
                    x.patch(place, Due.TMR_SEGA);
                    x.patch(place + 8, (long) (place >> 8) << 56);
                }
            }
            x.load();
            Due.be("card(2) of " + sizes[i] + " bytes", x.card(2), places[i]);
            Due.be("card(4) of " + sizes[i] + " bytes", x.card(4), places[i] >> 12);
            Due.be("card(5) of " + sizes[i] + " bytes", x.card(5), 15);
        }
        int[] beside = {0x1fef, 0x1ff1, 0x3fe0, 0x5ff0, 0x7fe0, 0x7fef, 0x7ff1, 0xbff0};
        for (int place : beside) {
            PadConsole x = new PadConsole(0);
            Due.tape(x, 49152, 0);
            x.patch(place, Due.TMR_SEGA);
            x.load();
            Due.be("card(2) with the signs at " + place, x.card(2), -1);
        }
    }

    /** The places are the cartridge's: behind 512 bytes that do not count, 512 more on the tape. */
    private static void promise6HeaderBehindThe512() {
        int[] places = {0x1ff0, 0x3ff0, 0x7ff0};
        for (int place : places) {
            PadConsole x = new PadConsole(0);
            Due.tape(x, 32768 + 512, 0);
            x.patch(place, Due.TMR_SEGA);
            x.load();
            Due.be("card(2), of signs where the tape has them", x.card(2), -1);
            Due.tape(x, 32768 + 512, 0);
            x.patch(place + 512, Due.TMR_SEGA);
            x.patch(place + 520, 0x5300000000000000L);
            x.load();
            Due.be("card(2), of signs 512 further", x.card(2), place);
            Due.be("card(4), of signs 512 further", x.card(4), 5);
            Due.be("card(5), of signs 512 further", x.card(5), 3);
        }
    }

    /** "two decimal digits each (high and low four bits as they are: 10 * high + low)", "10000 times the high four bits". */
    private static void promise6DigitsAsTheyAre() {
        long[] heads = {0xffffffffffff0000L, 0x00f0000000000000L, 0x000f000000000000L, 0x0000ff0000000000L,
            0x000000ff00000000L, 0x0000990000000000L, 0x0000009900000000L, 0xf000000000000000L, 0x0f00000000000000L, 0};
        int[] products = {165 + 16500 + 150000, 150000, 0, 16500, 165, 9900, 99, 0, 0, 0};
        int[] regions = {15, 0, 0, 0, 0, 0, 0, 15, 0, 0};
        int[] codes = {15, 0, 0, 0, 0, 0, 0, 0, 15, 0};
        for (int i = 0; i < heads.length; i++) {
            PadConsole x = new PadConsole(0);
            Due.tape(x, 8192, 0);
            x.patch(0x1ff0, Due.TMR_SEGA);
            x.patch(0x1ff8, heads[i]);
            x.load();
            Due.be("card(3), " + i, x.card(3), products[i]);
            Due.be("card(4), " + i, x.card(4), regions[i]);
            Due.be("card(5), " + i, x.card(5), codes[i]);
            Due.be("card(6), " + i, x.card(6), i == 0 ? 0xffff : 0);
        }
        PadConsole x = new PadConsole(0);
        Due.tape(x, 8192, 0);
        x.patch(0x1ff0, Due.TMR_SEGA);
        x.patch(0x1ff8, 0x0000000012345678L);
        x.load();
        Due.be("card(6), the word at 10, not that at 8", x.card(6), 0x1234);
        Due.be("card(3)", x.card(3), 0);
    }

    /** "The SUM, a word": 65535, and 0 behind it. */
    private static void promise6TheSumGoesRound() {
        for (int more = 0; more < 3; more++) {
            PadConsole x = new PadConsole(0);
            Due.tape(x, 32768, 0);
            // 257 bytes of 255 are 65535; the last one lies just ahead of the header.
            for (int i = 0; i < 32; i++) {
                x.patch(8 * i, -1);
            }
            x.patch(0x7fe8, 0xff00000000000000L | more);
            x.patch(0x7ff0, Due.TMR_SEGA);
            x.patch(0x7ff8, 0x0300000000000000L);
            x.load();
            Due.be("card(7) of 65535 + " + more, x.card(7), more == 0 ? 65535 : more - 1);
        }
        PadConsole y = new PadConsole(0);
        Due.tape(y, 262144, -1);
        y.patch(0x7ff0, Due.TMR_SEGA);
        y.patch(0x7ff8, 0x0200000000000000L);
        y.load();
        Due.be("card(7) of 262144 bytes", y.card(7), (int) (255L * (0x7ff0 + 262144 - 32768) % 65536));
    }

    /** "of the bytes ahead of the header, and, with a size code of 14, 15, 0, 1, 2, also of those from 0x8000 to the end." */
    private static void promise6TheSumEndsWithTheCartridge() {
        int[] codes = {0, 1, 2, 3, 12, 13, 14, 15};
        for (int code : codes) {
            boolean all = code <= 2 || code >= 14;
            PadConsole x = new PadConsole(0);
            Due.tape(x, 65536, 0);
            x.patch(0x3fe8, 0x0100000000000000L);
            x.patch(0x3ff0, Due.TMR_SEGA);
            x.patch(0x3ff8, (long) code << 56);
            x.patch(0x4000, 0x02);
            x.patch(0x7ff8, 0x0400000000000000L);
            x.patch(0x8000, 0x08);
            x.patch(0xfff8, 0x1000000000000000L);
            x.load();
            Due.be("card(7) with the code " + code, x.card(7), all ? 1 + 8 + 16 : 1);
            PadConsole y = new PadConsole(0);
            Due.tape(y, 32768, 0x0101010101010101L);
            y.patch(0x7ff0, Due.TMR_SEGA);
            y.patch(0x7ff8, (long) code << 56);
            y.load();
            Due.be("card(7) of 32768 bytes with the code " + code, y.card(7), 0x7ff0);
        }
    }
}
