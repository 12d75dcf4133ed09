/** Promises 1 to 6, 22, 23, 26, 27: a new object, feed, grow, patch, load, card, peek, poke, battery, wipe. */
public final class CartridgeTest {
    private CartridgeTest() {
    }

    public static void main(String[] args) {
        newObject();
        kinds();
        feed();
        feedToTheEnd();
        grow();
        patch();
        loadErrors();
        loadSkips512();
        loadClears();
        header();
        headerPlaces();
        sums();
        pagingKinds();
        plainPages();
        pagingOne();
        pagingOneBattery();
        pagingTwo();
        pagingThree();
        unfilledBank();
        ramMirrors();
        battery();
        Due.end("CartridgeTest");
    }

    private static void newObject() {
        PadConsole x = new PadConsole(0);
        for (int what = 0; what < 8; what++) {
            Due.be("card(" + what + ") of a new object", x.card(what), what == 2 ? -1 : 0);
        }
        for (int k = 0; k < 27; k++) {
            Due.be("register(" + k + ") of a new object", x.register(k), k == 18 ? 0xdff0 : 0);
        }
        for (int what = 0; what < 19; what++) {
            int due = what == 10 ? 1 : what == 11 ? 2 : what == 14 ? 255 : 0;
            Due.be("look(" + what + ") of a new object", x.look(what), due);
        }
        Due.be("peek(0) of a new object", x.peek(0), 255);
        Due.be("peek(0xbfff) of a new object", x.peek(0xbfff), 255);
        Due.be("peek(0xc000) of a new object", x.peek(0xc000), 0);
        Due.fail("card(-1)", Due.ARGUMENT, () -> x.card(-1));
        Due.fail("card(8)", Due.ARGUMENT, () -> x.card(8));
    }

    private static void kinds() {
        // Without a cartridge every step calls 0x38: 11 beats each.
        int[] kinds = {0, 1, 2, 3, -1};
        int[] steps = {5431, 6488, 5431, 5431, 5431};
        for (int i = 0; i < kinds.length; i++) {
            PadConsole x = new PadConsole(kinds[i]);
            Due.be("pause() of kind " + kinds[i], x.pause(), kinds[i] != 2);
            x.reset();
            Due.be("picture(1) of kind " + kinds[i], x.picture(1), steps[i]);
            Due.be("in(0) of kind " + kinds[i], x.in(0), kinds[i] == 2 ? 192 : 255);
        }
    }

    private static void feed() {
        PadConsole x = new PadConsole(0);
        Due.fail("feed(0, ..)", Due.ARGUMENT, () -> x.feed(0, 1, 2, 3));
        Due.fail("feed(25, ..)", Due.ARGUMENT, () -> x.feed(25, 1, 2, 3));
        Due.fail("feed(-1, ..)", Due.ARGUMENT, () -> x.feed(-1, 1, 2, 3));
        Due.be("look(5) behind wrong feeds", x.look(5), 0);
        Due.be("feed(1, ..)", x.feed(1, 0xfffffffffffffff1L, -1, -1), 1);
        Due.be("feed(7, ..)", x.feed(7, 0x8877665544332211L, -1, -1), 8);
        Due.be("feed(9, ..)", x.feed(9, 0x0807060504030201L, 0xffffffffffffff09L, -1), 17);
        Due.be("feed(24, ..)", x.feed(24, 0x1817161514131211L, 0x2827262524232221L, 0x3837363534333231L), 41);
        Due.be("look(5)", x.look(5), 41);
        x.grow(8192);
        Due.be("load()", x.load(), 0);
        int[] due = {0xf1, 0x11, 0x22, 0x33, 0x44, 0x55, 0x66, 0x77, 1, 2, 3, 4, 5, 6, 7, 8, 9};
        for (int i = 0; i < due.length; i++) {
            Due.be("peek(" + i + ") of what was fed", x.peek(i), due[i]);
        }
        for (int i = 0; i < 24; i++) {
            Due.be("peek of the 24 bytes", x.peek(17 + i), 0x11 + 16 * (i / 8) + i % 8);
        }
        Due.be("peek behind them, where the tape grew", x.peek(41), 0xf1);
        Due.be("peek behind that", x.peek(42), 0x11);
        Due.be("peek(8191)", x.peek(8191), x.peek(8191 % 41));
    }

    private static void feedToTheEnd() {
        PadConsole x = new PadConsole(0);
        x.feed(24, 1, 2, 3);
        Due.be("grow(262656 - 5)", x.grow(262656 - 5), 24);
        Due.fail("feed(6, ..) of a tape with room for 5", Due.STATE, () -> x.feed(6, 0, 0, 0));
        Due.fail("feed(25, ..) of a full tape", Due.ARGUMENT, () -> x.feed(25, 0, 0, 0));
        Due.be("look(5) behind it", x.look(5), 262651);
        Due.be("feed(5, ..)", x.feed(5, -1, 0, 0), 262656);
        Due.fail("feed(1, ..) of a full tape", Due.STATE, () -> x.feed(1, 0, 0, 0));
        Due.be("load() of a full tape", x.load(), 0);
        Due.be("look(7)", x.look(7), 262144);
        Due.be("card(1)", x.card(1), 16);
        Due.be("look(5) behind load()", x.look(5), 0);
    }

    private static void grow() {
        PadConsole x = new PadConsole(0);
        Due.fail("grow(-1) of an empty tape", Due.ARGUMENT, () -> x.grow(-1));
        Due.fail("grow(262657) of an empty tape", Due.ARGUMENT, () -> x.grow(262657));
        Due.fail("grow(0) of an empty tape", Due.STATE, () -> x.grow(0));
        Due.fail("grow(10) of an empty tape", Due.STATE, () -> x.grow(10));
        x.feed(3, 0x030201, 0, 0);
        Due.fail("grow(2)", Due.ARGUMENT, () -> x.grow(2));
        Due.fail("grow(262657)", Due.ARGUMENT, () -> x.grow(262657));
        Due.be("grow(3)", x.grow(3), 3);
        Due.be("grow(5)", x.grow(5), 3);
        Due.be("look(5)", x.look(5), 5);
        Due.be("grow(8192)", x.grow(8192), 5);
        x.load();
        int[] five = {1, 2, 3, 1, 2};
        for (int i = 0; i < 23; i++) {
            Due.be("peek(" + i + ") of what grew", x.peek(i), five[i % 5]);
        }
        Due.be("peek(8191) of what grew", x.peek(8191), five[8191 % 5]);
    }

    private static void patch() {
        PadConsole x = new PadConsole(0);
        Due.fail("patch(0, ..) of an empty tape", Due.ARGUMENT, () -> x.patch(0, 0));
        Due.tape(x, 8192, 0x5555555555555555L);
        Due.fail("patch(-1, ..)", Due.ARGUMENT, () -> x.patch(-1, 0));
        Due.fail("patch(8185, ..)", Due.ARGUMENT, () -> x.patch(8185, 0));
        Due.fail("patch(2147483647, ..)", Due.ARGUMENT, () -> x.patch(2147483647, 0));
        Due.fail("patch(-2147483648, ..)", Due.ARGUMENT, () -> x.patch(-2147483648, 0));
        x.patch(8184, 0xf807060504030201L);
        x.patch(3, 0x1817161514131211L);
        x.load();
        Due.be("peek(2)", x.peek(2), 0x55);
        for (int i = 0; i < 8; i++) {
            Due.be("peek of a patch", x.peek(3 + i), 0x11 + i);
            Due.be("peek of the last patch", x.peek(8184 + i), i == 7 ? 0xf8 : 1 + i);
        }
        Due.be("peek(11)", x.peek(11), 0x55);
        Due.be("peek(8183)", x.peek(8183), 0x55);
    }

    private static void loadErrors() {
        int[] sizes = {0, 8, 512, 520, 8184, 8191, 8192, 8193, 8192 + 512, 12288, 16384, 16896, 24576, 24576 + 512, 262655, 262656};
        int[] due = {1, 1, 1, 1, 1, 1, 0, 2, 2, 2, 0, 0, 0, 2, 2, 0};
        for (int i = 0; i < sizes.length; i++) {
            PadConsole x = new PadConsole(0);
            Due.tape(x, 8192, 7);
            x.load();
            x.poke(0xc000, 99);
            x.save();
            x.step(3);
            if (sizes[i] > 0) {
                x.feed(1, 9, 0, 0);
                x.grow(sizes[i]);
            }
            Due.be("load() of " + sizes[i] + " bytes", x.load(), due[i]);
            Due.be("look(5) behind load()", x.look(5), 0);
            Due.be("peek(0) behind load()", x.peek(0), due[i] == 0 ? 9 : 7);
            Due.be("peek(0xc000) behind load()", x.peek(0xc000), due[i] == 0 ? 0 : 99);
            Due.be("look(15) behind load()", x.look(15), due[i] == 0 ? 0 : 1);
            Due.be("register(22) behind load()", x.register(22), due[i] == 0 ? 0 : 3);
            Due.be("look(7) behind load()", x.look(7), due[i] == 0 ? sizes[i] / 8192 * 8192 : 8192);
        }
    }

    private static void loadSkips512() {
        PadConsole x = new PadConsole(0);
        x.feed(2, 0x0201, 0, 0);
        x.grow(16384 + 512);
        x.patch(512, 0x0807060504030201L);
        x.patch(504, 0x5555555555555555L);
        x.load();
        Due.be("look(7) of a cartridge with 512 more", x.look(7), 16384);
        Due.be("peek(0) of it", x.peek(0), 1);
        Due.be("peek(7) of it", x.peek(7), 8);
        Due.be("card(1) of it", x.card(1), 1);
        Due.be("peek(16384) of it", x.peek(16384), 255);
    }

    private static void loadClears() {
        PadConsole x = new PadConsole(0);
        Due.idle(x);
        x.stop(0x1234, true);
        x.plan(100, 0, 1);
        x.press(1, 3);
        x.step(200);
        Due.videoRegister(x, 5, 77);
        x.out(0x7f, 0x93);
        x.out(0x3f, 0);
        x.pause();
        long beats = x.look(0);
        Due.tape(x, 8192, 0x1111111111111111L);
        Due.be("load()", x.load(), 0);
        Due.be("register(19) behind load()", x.register(19), 0);
        Due.be("register(18) behind load()", x.register(18), 0xdff0);
        Due.be("peek(0xc000) behind load()", x.peek(0xc000), 0);
        Due.be("chip(5) behind load()", x.chip(5), 0);
        Due.be("chip(20) behind load()", x.chip(20), 0);
        Due.be("chip(21) behind load()", x.chip(21), 0);
        Due.be("sound(9) behind load()", x.sound(9), 15);
        Due.be("look(14) behind load()", x.look(14), 255);
        Due.be("look(12) behind load()", x.look(12), 0);
        Due.be("look(0) behind load()", x.look(0), beats);
        Due.be("look(6) behind load()", x.look(6), 1);
        Due.be("look(16) behind load()", x.look(16), 1);
        Due.be("trace(0) behind load()", x.trace(0), 0xc000);
        Due.be("in(0xdc) behind load()", x.in(0xdc), 0x3f);
    }

    private static void header() {
        PadConsole x = new PadConsole(0);
        Due.tape(x, 32768, 0);
        x.patch(0x7ff0, Due.TMR_SEGA);
        // At 10 the check 0xabcd, at 12 0x45, at 13 0x9f, at 14 0x27, at 15 0x6c.
        x.patch(0x7ff8, 0x6c279f45abcd0000L);
        x.load();
        Due.be("card(2)", x.card(2), 0x7ff0);
        Due.be("card(3)", x.card(3), 45 + 100 * 105 + 10000 * 2);
        Due.be("card(4)", x.card(4), 6);
        Due.be("card(5)", x.card(5), 12);
        Due.be("card(6)", x.card(6), 0xabcd);
        Due.be("card(7)", x.card(7), 0);
    }

    private static void headerPlaces() {
        int[] places = {0x7ff0, 0x3ff0, 0x1ff0};
        for (int from = 0; from < 3; from++) {
            PadConsole x = new PadConsole(0);
            Due.tape(x, 32768, 0);
            for (int i = from; i < 3; i++) {
                x.patch(places[i], Due.TMR_SEGA);
                x.patch(places[i] + 8, (long) (i + 1) << 60);
            }
            x.load();
            Due.be("card(2) of the first of several", x.card(2), places[from]);
            Due.be("card(4) of the first of several", x.card(4), from + 1);
        }
        for (int wrong = 0; wrong < 8; wrong++) {
            PadConsole x = new PadConsole(0);
            Due.tape(x, 8192, 0);
            x.patch(0x1ff0, Due.TMR_SEGA ^ 1L << 8 * wrong);
            x.patch(0x1ff8, -1);
            x.load();
            Due.be("card(2) with a wrong sign", x.card(2), -1);
            for (int what = 3; what < 8; what++) {
                Due.be("card(" + what + ") without a header", x.card(what), 0);
            }
        }
        PadConsole small = new PadConsole(0);
        Due.tape(small, 8192, 0);
        small.patch(0x1ff0, Due.TMR_SEGA);
        small.load();
        Due.be("card(2) of 8192 bytes", small.card(2), 0x1ff0);
    }

    private static void sums() {
        for (int code = 0; code < 16; code++) {
            PadConsole x = new PadConsole(0);
            Due.tape(x, 40960, 0x0101010101010101L);
            x.patch(0x7ff0, Due.TMR_SEGA);
            x.patch(0x7ff8, (long) code << 56);
            x.patch(0x8000, 0xffL);
            x.load();
            boolean all = code >= 14 || code <= 2;
            int due = 0x7ff0 + (all ? 8192 - 8 + 255 : 0);
            Due.be("card(7) with the size code " + code, x.card(7), due);
        }
        PadConsole x = new PadConsole(0);
        Due.tape(x, 65536, -1);
        x.patch(0x3ff0, Due.TMR_SEGA);
        x.patch(0x3ff8, 0);
        x.load();
        Due.be("card(7) that goes round", x.card(7), (0x3ff0 + 32768) * 255 & 65535);
        PadConsole small = new PadConsole(0);
        Due.tape(small, 8192, 0x0202020202020202L);
        small.patch(0x1ff0, Due.TMR_SEGA);
        small.patch(0x1ff8, 0);
        small.load();
        Due.be("card(7) of 8192 bytes", small.card(7), 2 * 0x1ff0);
    }

    private static void pagingKinds() {
        int[] sizes = {8192, 49152, 57344, 65536, 262144};
        int[] banks = {1, 3, 4, 4, 16};
        for (int i = 0; i < sizes.length; i++) {
            for (int form = 0; form < 4; form++) {
                PadConsole x = new PadConsole(0);
                Due.tape(x, sizes[i], 0);
                if ((form & 1) != 0) {
                    x.patch(0x1ff0, Due.TMR_SEGA);
                }
                if ((form & 2) != 0 && sizes[i] > 32768) {
                    x.patch(0x7fe6, 0x12345678fedc0124L);
                }
                x.load();
                int due = sizes[i] <= 49152 ? 0 : form >= 2 ? 2 : form == 1 ? 1 : 3;
                Due.be("card(0) of " + sizes[i] + " bytes", x.card(0), due);
                Due.be("card(1) of " + sizes[i] + " bytes", x.card(1), banks[i]);
                Due.be("look(9)", x.look(9), 0);
                Due.be("look(10)", x.look(10), 1);
                Due.be("look(11)", x.look(11), due == 2 ? 0 : 2);
                Due.be("look(8)", x.look(8), 0);
            }
        }
        PadConsole x = new PadConsole(0);
        Due.tape(x, 65536, 0);
        x.patch(0x7fe6, 0xfedd0124L);
        x.load();
        Due.be("card(0) with 65537 together", x.card(0), 3);
    }

    private static void plainPages() {
        PadConsole x = new PadConsole(0);
        Due.numbered(x, 49152, true, false);
        Due.be("peek(0)", x.peek(0), 1);
        Due.be("peek(0x4000)", x.peek(0x4000), 17);
        Due.be("peek(0xb000)", x.peek(0xb000), 36);
        int[] places = {0, 0x4000, 0x8000, 0xa000, 0xfffc, 0xfffd, 0xfffe, 0xffff};
        for (int place : places) {
            x.poke(place, 8 + 2);
        }
        Due.be("peek(0) behind pokes", x.peek(0), 1);
        Due.be("peek(0x4000) behind pokes", x.peek(0x4000), 17);
        Due.be("peek(0x8000) behind pokes", x.peek(0x8000), 33);
        Due.be("look(8) behind pokes", x.look(8), 0);
        Due.be("look(9) behind pokes", x.look(9), 0);
    }

    private static void pagingOne() {
        PadConsole x = new PadConsole(0);
        Due.numbered(x, 131072, true, false);
        Due.be("card(0)", x.card(0), 1);
        x.poke(0xfffd, 5);
        x.poke(0xfffe, 6);
        x.poke(0xffff, 0x17);
        Due.be("look(9)", x.look(9), 5);
        Due.be("look(10)", x.look(10), 6);
        Due.be("look(11)", x.look(11), 0x17);
        Due.be("peek(0), of bank 0", x.peek(0), 1);
        Due.be("peek(0x3ff), of bank 0", x.peek(0x3ff), 0);
        Due.be("peek(0x1000)", x.peek(0x1000), 16 * 5 + 2);
        Due.be("peek(0x4000)", x.peek(0x4000), 16 * 6 + 1);
        Due.be("peek(0x5000)", x.peek(0x5000), 16 * 6 + 2);
        Due.be("peek(0x8000), of bank 0x17 modulo 8", x.peek(0x8000), 16 * 7 + 1);
        Due.be("peek(0xfffd), which is RAM", x.peek(0xfffd), 5);
        Due.be("peek(0xdfff), which is RAM", x.peek(0xdfff), 0x17);
        x.poke(0, 3);
        x.poke(0x8000, 3);
        x.poke(0xa000, 3);
        x.poke(0xdffc, 3);
        x.poke(0xfffb, 3);
        Due.be("look(8) behind pokes", x.look(8), 0);
        Due.be("peek(0x8000) behind pokes", x.peek(0x8000), 16 * 7 + 1);
        x.reset();
        Due.be("look(9) behind reset()", x.look(9), 0);
        Due.be("look(11) behind reset()", x.look(11), 2);
        Due.be("peek(0x8000) behind reset()", x.peek(0x8000), 33);
        PadConsole y = new PadConsole(0);
        Due.tape(y, 65536, 0);
        y.patch(0x7ff0, Due.TMR_SEGA);
        y.patch(0x3f8, 0x0800000000000000L);
        y.patch(0x400, 0x09);
        y.patch(0x4000 + 0x3f8, 0x1800000000000000L);
        y.patch(0x4000 + 0x400, 0x19);
        y.load();
        y.poke(0xfffd, 1);
        Due.be("peek(0x3ff) with F0 1", y.peek(0x3ff), 8);
        Due.be("peek(0x400) with F0 1", y.peek(0x400), 0x19);
    }

    private static void pagingOneBattery() {
        PadConsole x = new PadConsole(0);
        Due.numbered(x, 65536, true, false);
        x.poke(0x8000, 77);
        Due.be("battery(0) without K", x.battery(0), 0);
        x.poke(0xfffc, 8);
        Due.be("look(8)", x.look(8), 8);
        Due.be("peek(0x8000) with K 8", x.peek(0x8000), 0);
        x.poke(0x8000, 11);
        x.poke(0xbfff, 12);
        x.poke(0xc000, 13);
        x.poke(0x7fff, 14);
        Due.be("peek(0xdfff), not the battery", x.peek(0xdfff), 0);
        Due.be("battery(0)", x.battery(0), 11);
        Due.be("battery(16383)", x.battery(16383), 12);
        Due.be("battery(16384)", x.battery(16384), 0);
        x.poke(0xfffc, 12);
        Due.be("peek(0x8000) with K 12", x.peek(0x8000), 0);
        x.poke(0x8001, 15);
        x.poke(0xbfff, 16);
        Due.be("battery(16385)", x.battery(16385), 15);
        Due.be("battery(32767)", x.battery(32767), 16);
        Due.be("battery(1)", x.battery(1), 0);
        Due.be("peek(0xbfff)", x.peek(0xbfff), 16);
        Due.be("peek(0x4000)", x.peek(0x4000), 17);
        x.poke(0xfffc, 0xf7);
        Due.be("peek(0x8000) with K 0xf7", x.peek(0x8000), 33);
        x.poke(0xfffc, 0xf8);
        Due.be("peek(0xbfff) with K 0xf8", x.peek(0xbfff), 12);
        x.poke(0xfffc, 4);
        Due.be("peek(0x8000) with K 4", x.peek(0x8000), 33);
        x.poke(0x8000, 99);
        Due.be("battery(16384) with K 4", x.battery(16384), 0);
        x.reset();
        Due.be("look(8) behind reset()", x.look(8), 0);
        Due.be("battery(0) behind reset()", x.battery(0), 11);
        Due.tape(x, 8192, 0);
        x.load();
        Due.be("battery(32767) behind load()", x.battery(32767), 16);
        x.poke(0xfffc, 8);
        x.poke(0x8000, 3);
        Due.be("battery(0) with paging 0", x.battery(0), 11);
        x.wipe();
        Due.be("battery(0) behind wipe()", x.battery(0), 0);
        Due.be("battery(32767) behind wipe()", x.battery(32767), 0);
    }

    private static void pagingTwo() {
        PadConsole x = new PadConsole(0);
        Due.numbered(x, 131072, true, true);
        Due.be("card(0)", x.card(0), 2);
        Due.be("peek(0x8000) at first", x.peek(0x8000), 1);
        x.poke(0, 3);
        x.poke(0x4000, 12);
        x.poke(0x8000, 255);
        Due.be("peek(0)", x.peek(0), 16 * 3 + 1);
        Due.be("peek(0x1000)", x.peek(0x1000), 16 * 3 + 2);
        Due.be("peek(0x4000)", x.peek(0x4000), 16 * 4 + 1);
        Due.be("peek(0x8000)", x.peek(0x8000), 16 * 7 + 1);
        Due.be("look(11)", x.look(11), 255);
        int[] others = {1, 0x3fff, 0x4001, 0x8001, 0xa000, 0xfffc, 0xfffd, 0xfffe, 0xffff};
        for (int place : others) {
            x.poke(place, 8);
        }
        Due.be("look(8) behind others", x.look(8), 0);
        Due.be("look(9) behind others", x.look(9), 3);
        Due.be("look(10) behind others", x.look(10), 12);
        Due.be("look(11) behind others", x.look(11), 255);
        x.reset();
        Due.be("look(9) behind reset()", x.look(9), 0);
        Due.be("look(10) behind reset()", x.look(10), 1);
        Due.be("look(11) behind reset()", x.look(11), 0);
    }

    private static void pagingThree() {
        PadConsole x = new PadConsole(0);
        Due.numbered(x, 131072, false, false);
        Due.be("card(0)", x.card(0), 3);
        x.poke(0xa000, 13);
        Due.be("look(11)", x.look(11), 13);
        Due.be("peek(0)", x.peek(0), 1);
        Due.be("peek(0x4000)", x.peek(0x4000), 17);
        Due.be("peek(0x8000)", x.peek(0x8000), 16 * 5 + 1);
        Due.be("peek(0xb000)", x.peek(0xb000), 16 * 5 + 4);
        int[] others = {0, 0x4000, 0x8000, 0x9fff, 0xa001, 0xfffc, 0xfffd, 0xfffe, 0xffff};
        for (int place : others) {
            x.poke(place, 8);
        }
        Due.be("look(8) behind others", x.look(8), 0);
        Due.be("look(9) behind others", x.look(9), 0);
        Due.be("look(10) behind others", x.look(10), 1);
        Due.be("look(11) behind others", x.look(11), 13);
    }

    private static void unfilledBank() {
        PadConsole x = new PadConsole(0);
        Due.numbered(x, 57344, false, false);
        x.poke(0xa000, 3);
        Due.be("peek(0x8000) of the last bank", x.peek(0x8000), 49);
        Due.be("peek(0x9fff) of the last bank", x.peek(0x9fff), 0);
        Due.be("peek(0xa000) of the last bank", x.peek(0xa000), 255);
        Due.be("peek(0xbfff) of the last bank", x.peek(0xbfff), 255);
    }

    private static void ramMirrors() {
        PadConsole x = new PadConsole(0);
        x.poke(0xc123, 0x1ff);
        Due.be("peek(0xc123)", x.peek(0xc123), 255);
        Due.be("peek(0xe123)", x.peek(0xe123), 255);
        x.poke(0x1ffff, 42);
        Due.be("peek(0xdfff)", x.peek(0xdfff), 42);
        Due.be("peek(-1)", x.peek(-1), 42);
        Due.be("peek(0x1e123)", x.peek(0x1e123), 255);
        x.reset();
        Due.be("peek(0xc123) behind reset()", x.peek(0xc123), 255);
    }

    private static void battery() {
        PadConsole x = new PadConsole(2);
        Due.fail("battery(-1)", Due.NONE, () -> x.battery(-1));
        Due.fail("battery(32768)", Due.NONE, () -> x.battery(32768));
        Due.be("battery(32767)", x.battery(32767), 0);
    }
}
