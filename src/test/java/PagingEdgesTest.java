/** The edges of CARTRIDGES, and of promises 22, 23, 26, 27 (peek, poke, battery, wipe), sentence by sentence. */
public final class PagingEdgesTest {
    private PagingEdgesTest() {
    }

    public static void main(String[] args) {
        plainUpTo49152Bytes();
        secondPagingByTwoWords();
        thirdPagingWithoutAHeader();
        numbersOfBanksAreModuloB();
        firstNumbersComeBackByReset();
        pagingOneReads();
        pagingOneWrites();
        pagingOneBattery();
        pagingTwoReadsAndWrites();
        pagingThreeReadsAndWrites();
        plainReadsAndWrites();
        ramFrom0xc000On();
        promise22AddressesGoRound();
        promise23ValuesGoRound();
        promise26And27TheBattery();
        Due.end("PagingEdgesTest");
    }

    private static int pagingOf(int size, boolean header, int first, int second) {
        PadConsole x = new PadConsole(0);
        Due.tape(x, size, 0);
        x.patch(0x7fe6, first | (long) second << 16);
        if (header) {
            x.patch(0x7ff0, Due.TMR_SEGA);
        }
        Due.be("load()", x.load(), 0);
        return x.card(0);
    }

    /** "0 plain, up to 49152 bytes". */
    private static void plainUpTo49152Bytes() {
        Due.be("paging of 49152 bytes", pagingOf(49152, false, 0, 0), 0);
        Due.be("paging of 49152 bytes with a header", pagingOf(49152, true, 0, 0), 0);
        Due.be("paging of 49152 bytes with the words", pagingOf(49152, true, 1, 65535), 0);
        Due.be("paging of 57344 bytes", pagingOf(57344, false, 0, 0), 3);
        Due.be("paging of 57344 bytes with a header", pagingOf(57344, true, 0, 0), 1);
        Due.be("paging of 57344 bytes with the words", pagingOf(57344, true, 1, 65535), 2);
        Due.be("paging of 40960 bytes with the words", pagingOf(40960, false, 1, 65535), 0);
        Due.be("paging of 262144 bytes with a header", pagingOf(262144, true, 0, 0), 1);
        PadConsole x = new PadConsole(0);
        Due.tape(x, 49152 + 512, 0);
        x.load();
        Due.be("card(0) of 49152 bytes behind 512", x.card(0), 0);
    }

    /** "else 2, if the words at 0x7fe6 and 0x7fe8 together are 65536 (the first one is not 0)". */
    private static void secondPagingByTwoWords() {
        int[][] words = {{1, 65535}, {65535, 1}, {0x8000, 0x8000}, {0x00ff, 0xff01}, {0x1234, 0xedcc}};
        for (int[] w : words) {
            Due.be("paging with " + w[0] + ", " + w[1], pagingOf(65536, true, w[0], w[1]), 2);
            Due.be("paging with " + w[0] + ", " + w[1] + " without a header", pagingOf(65536, false, w[0], w[1]), 2);
        }
        int[][] others = {{0, 0}, {0, 1}, {1, 65534}, {2, 65535}, {65535, 0}, {65535, 65535}, {0x8000, 0}, {0x00ff, 0x01ff}};
        for (int[] w : others) {
            Due.be("paging with " + w[0] + ", " + w[1], pagingOf(65536, true, w[0], w[1]), 1);
            Due.be("paging with " + w[0] + ", " + w[1] + " without a header", pagingOf(65536, false, w[0], w[1]), 3);
        }
    }

    /** "else 3, if there is no header; else 1." */
    private static void thirdPagingWithoutAHeader() {
        int[] places = {0x7ff0, 0x3ff0, 0x1ff0, 0x5ff0};
        for (int place : places) {
            PadConsole x = new PadConsole(0);
            Due.tape(x, 65536, 0);
            x.patch(place, Due.TMR_SEGA);
            x.load();
            Due.be("card(0) with the signs at " + place, x.card(0), place == 0x5ff0 ? 3 : 1);
        }
    }

    /** Each bank has at 0, 0x3ff, 0x400 and 0x3fff 16 * bank + 1, 2, 3, 4. */
    private static PadConsole marked(int size, boolean header, boolean words) {
        PadConsole x = new PadConsole(0);
        Due.tape(x, size, 0);
        for (int bank = 0; bank * 16384 < size; bank++) {
            x.patch(bank * 16384, 16 * bank + 1);
            x.patch(bank * 16384 + 0x3f8, 16L * bank + 2 << 56);
            x.patch(bank * 16384 + 0x400, 16 * bank + 3);
            if (bank * 16384 + 16384 <= size) {
                x.patch(bank * 16384 + 0x3ff8, 16L * bank + 4 << 56);
            }
        }
        if (header) {
            x.patch(0x3ff0, Due.TMR_SEGA);
        }
        if (words) {
            x.patch(0x7fe6, 0xffff0001L);
        }
        Due.be("load()", x.load(), 0);
        return x;
    }

    /** "F0, F1, F2 are numbers of banks (always modulo B)"; look tells them "as written". */
    private static void numbersOfBanksAreModuloB() {
        int[] sizes = {57344, 65536, 81920, 98304, 262144};
        int[] banks = {4, 4, 5, 6, 16};
        for (int i = 0; i < sizes.length; i++) {
            PadConsole x = marked(sizes[i], true, false);
            Due.be("card(0)", x.card(0), 1);
            int[] numbers = {0, 1, banks[i] - 1, banks[i], banks[i] + 1, 127, 128, 254, 255};
            for (int n : numbers) {
                for (int f = 0; f < 3; f++) {
                    x.poke(0xfffd + f, n);
                    Due.be("look(" + (9 + f) + ") as written", x.look(9 + f), n);
                    Due.be("peek of bank " + n + " modulo " + banks[i], x.peek(0x4000 * f + 0x400), n % banks[i] * 16 + 3);
                }
            }
        }
        PadConsole y = marked(81920, false, false);
        y.poke(0xa000, 255);
        Due.be("look(11) of paging 3", y.look(11), 255);
        Due.be("peek(0x8000) of paging 3", y.peek(0x8000), 1);
        PadConsole z = marked(81920, false, true);
        z.poke(0, 9);
        z.poke(0x4000, 255);
        z.poke(0x8000, 6);
        Due.be("peek(0) of paging 2", z.peek(0), 65);
        Due.be("peek(0x4000) of paging 2", z.peek(0x4000), 1);
        Due.be("peek(0x8000) of paging 2", z.peek(0x8000), 17);
    }

    /** "0, 1, 2 at first, with paging 2 0, 1, 0; K is 0." */
    private static void firstNumbersComeBackByReset() {
        for (int form = 0; form < 3; form++) {
            PadConsole x = marked(65536, form == 1, form == 2);
            for (int again = 0; again < 2; again++) {
                Due.be("look(8)", x.look(8), 0);
                Due.be("look(9)", x.look(9), 0);
                Due.be("look(10)", x.look(10), 1);
                Due.be("look(11) of form " + form, x.look(11), form == 2 ? 0 : 2);
                int[] places = {0, 0x4000, 0x8000, 0xa000, 0xfffc, 0xfffd, 0xfffe, 0xffff};
                for (int place : places) {
                    x.poke(place, 3);
                }
                x.reset();
            }
        }
    }

    /** "below 0x400 that of bank 0; below 0x4000 bank F0, below 0x8000 F1, else F2 (at a modulo 16384)". */
    private static void pagingOneReads() {
        PadConsole x = marked(131072, true, false);
        x.poke(0xfffd, 5);
        x.poke(0xfffe, 6);
        x.poke(0xffff, 7);
        int[] addresses = {0, 0x3ff, 0x400, 0x3fff, 0x4000, 0x43ff, 0x4400, 0x7fff, 0x8000, 0x83ff, 0x8400, 0xbfff};
        int[] due = {1, 2, 83, 84, 97, 98, 99, 100, 113, 114, 115, 116};
        for (int i = 0; i < addresses.length; i++) {
            Due.be("peek(" + addresses[i] + ") of paging 1", x.peek(addresses[i]), due[i]);
        }
    }

    /** "with paging 1 0xfffc: K is v, 0xfffd .. 0xffff: F0, F1, F2 are v", and RAM as well. */
    private static void pagingOneWrites() {
        PadConsole x = marked(131072, true, false);
        int[] nothing = {0, 0x400, 0x4000, 0x7fff, 0x8000, 0xa000, 0xbfff, 0xc000, 0xdffc, 0xdffd, 0xdffe, 0xdfff, 0xfffb};
        for (int place : nothing) {
            x.poke(place, 3);
        }
        int[] first = {0, 0, 1, 2};
        for (int k = 0; k < 4; k++) {
            Due.be("look(" + (8 + k) + ") behind others", x.look(8 + k), first[k]);
        }
        Due.be("peek(0x8000), which is the cartridge's", x.peek(0x8000), 33);
        for (int k = 0; k < 4; k++) {
            x.poke(0xfffc + k, 0xf0 + k);
            for (int i = 0; i < 4; i++) {
                Due.be("look(" + (8 + i) + ")", x.look(8 + i), i <= k ? 0xf0 + i : first[i]);
            }
            Due.be("peek(" + (0xfffc + k) + "), RAM", x.peek(0xfffc + k), 0xf0 + k);
            Due.be("peek(" + (0xdffc + k) + "), RAM", x.peek(0xdffc + k), 0xf0 + k);
        }
    }

    /** "with bit 3 of K 1 the battery at a - 0x8000 + 16384 * (bit 2 of K)"; writing "likewise" at 0x8000 .. 0xbfff. */
    private static void pagingOneBattery() {
        PadConsole x = marked(65536, true, false);
        for (int k = 0; k < 256; k += 5) {
            x.poke(0xfffc, k);
            x.poke(0x8000, k);
            boolean in = (k & 8) != 0;
            Due.be("peek(0x8000) with K " + k, x.peek(0x8000), in ? k : 33);
            if (in) {
                Due.be("battery of K " + k, x.battery((k & 4) != 0 ? 16384 : 0), k);
            }
        }
        x.wipe();
        x.poke(0xfffc, 8);
        int[] outside = {0x7fff, 0xc000};
        for (int a : outside) {
            x.poke(a, 99);
        }
        Due.be("battery(0) behind writing beside it", x.battery(0), 0);
        Due.be("battery(16383) behind writing beside it", x.battery(16383), 0);
        Due.be("battery(16384) behind writing beside it", x.battery(16384), 0);
        Due.be("battery(32767) behind writing beside it", x.battery(32767), 0);
        Due.be("peek(0x7fff) with K 8", x.peek(0x7fff), 20);
        x.poke(0x8000, 1);
        x.poke(0xbfff, 2);
        x.poke(0xfffc, 12);
        x.poke(0x8000, 3);
        x.poke(0xbfff, 4);
        int[] places = {0, 1, 16382, 16383, 16384, 16385, 32766, 32767};
        int[] due = {1, 0, 0, 2, 3, 0, 0, 4};
        for (int i = 0; i < places.length; i++) {
            Due.be("battery(" + places[i] + ")", x.battery(places[i]), due[i]);
        }
        x.poke(0xfffc, 4);
        x.poke(0x8000, 9);
        x.poke(0xfffc, 0);
        x.poke(0xbfff, 9);
        Due.be("battery(0) behind writing without bit 3", x.battery(0), 1);
        Due.be("battery(16384) behind writing without bit 3", x.battery(16384), 3);
        Due.be("battery(16383) behind writing without bit 3", x.battery(16383), 2);
    }

    /** "2: F0, F1, F2 likewise (0x400 does not matter)." "Paging 2: just at 0, 0x4000, 0x8000". */
    private static void pagingTwoReadsAndWrites() {
        PadConsole x = marked(131072, true, true);
        x.poke(0, 5);
        x.poke(0x4000, 6);
        x.poke(0x8000, 7);
        int[] addresses = {0, 0x3ff, 0x400, 0x3fff, 0x4000, 0x43ff, 0x7fff, 0x8000, 0xbfff};
        int[] due = {81, 82, 83, 84, 97, 98, 100, 113, 116};
        for (int i = 0; i < addresses.length; i++) {
            Due.be("peek(" + addresses[i] + ") of paging 2", x.peek(addresses[i]), due[i]);
        }
        int[] nothing = {1, 0x3ff, 0x3fff, 0x4001, 0x7fff, 0x8001, 0xa000, 0xbfff, 0xc000, 0xfffc, 0xfffd, 0xfffe, 0xffff};
        for (int place : nothing) {
            x.poke(place, 9);
        }
        Due.be("look(8) behind others", x.look(8), 0);
        for (int k = 0; k < 3; k++) {
            Due.be("look(" + (9 + k) + ") behind others", x.look(9 + k), 5 + k);
        }
        Due.be("peek(0xfffd), RAM", x.peek(0xfffd), 9);
        Due.be("peek(0x8000) with 9 at 0xfffc", x.peek(0x8000), 113);
    }

    /** "3: banks 0 and 1, then F2." "3: just at 0xa000: F2 is v." */
    private static void pagingThreeReadsAndWrites() {
        PadConsole x = marked(131072, false, false);
        x.poke(0xa000, 7);
        int[] addresses = {0, 0x3ff, 0x400, 0x3fff, 0x4000, 0x43ff, 0x7fff, 0x8000, 0xbfff};
        int[] due = {1, 2, 3, 4, 17, 18, 20, 113, 116};
        for (int i = 0; i < addresses.length; i++) {
            Due.be("peek(" + addresses[i] + ") of paging 3", x.peek(addresses[i]), due[i]);
        }
        int[] nothing = {0, 0x4000, 0x8000, 0x9fff, 0xa001, 0xbfff, 0xc000, 0xe000, 0xfffc, 0xfffd, 0xfffe, 0xffff};
        for (int place : nothing) {
            x.poke(place, 9);
        }
        int[] then = {0, 0, 1, 7};
        for (int k = 0; k < 4; k++) {
            Due.be("look(" + (8 + k) + ") behind others", x.look(8 + k), then[k]);
        }
        Due.be("peek(0xbfff) with 9 at 0xfffc", x.peek(0xbfff), 116);
    }

    /** "paging 0: the cartridge's byte a (255 beyond its end)." "Others: nothing." */
    private static void plainReadsAndWrites() {
        int[] sizes = {8192, 16384, 40960, 49152};
        for (int size : sizes) {
            PadConsole x = new PadConsole(0);
            Due.tape(x, size, 0x0101010101010101L);
            x.patch(size - 8, 0x0502020202020202L);
            x.load();
            Due.be("peek of the last byte of " + size, x.peek(size - 1), 5);
            Due.be("peek behind the last byte of " + size, x.peek(size), size == 49152 ? 0 : 255);
            Due.be("peek(0xbfff) of " + size, x.peek(0xbfff), size == 49152 ? 5 : 255);
            int[] places = {0, 0x4000, 0x8000, 0xa000, 0xbfff, size - 1, 0xfffc, 0xfffd, 0xfffe, 0xffff};
            for (int place : places) {
                x.poke(place, 9);
            }
            Due.be("peek(0) behind pokes", x.peek(0), 1);
            Due.be("peek of the last byte behind pokes", x.peek(size - 1), 5);
            int[] first = {0, 0, 1, 2};
            for (int k = 0; k < 4; k++) {
                Due.be("look(" + (8 + k) + ") behind pokes", x.look(8 + k), first[k]);
            }
            Due.be("battery(0) behind pokes", x.battery(0), 0);
        }
    }

    /** "from 0xc000 on RAM (8192 bytes, 0 at first) at a modulo 8192." */
    private static void ramFrom0xc000On() {
        PadConsole x = new PadConsole(0);
        int[] addresses = {0xc000, 0xdfff, 0xe000, 0xffff};
        for (int a : addresses) {
            Due.be("peek(" + a + ") at first", x.peek(a), 0);
        }
        x.poke(0xbfff, 1);
        Due.be("peek(0xdfff) behind poke(0xbfff, 1)", x.peek(0xdfff), 0);
        x.poke(0xc000, 2);
        Due.be("peek(0xe000)", x.peek(0xe000), 2);
        x.poke(0xffff, 3);
        Due.be("peek(0xdfff)", x.peek(0xdfff), 3);
        x.poke(0xe000, 4);
        Due.be("peek(0xc000)", x.peek(0xc000), 4);
        x.poke(0xdfff, 5);
        Due.be("peek(0xffff)", x.peek(0xffff), 5);
        x.reset();
        Due.be("peek(0xc000) behind reset()", x.peek(0xc000), 4);
        Due.be("peek(0xffff) behind reset()", x.peek(0xffff), 5);
    }

    /** "The byte that is read at an address (its lowest 16 bits), without more." */
    private static void promise22AddressesGoRound() {
        PadConsole x = marked(65536, true, false);
        x.poke(0xffff, 3);
        x.poke(0xc000, 77);
        int[] same = {0xc000, 0x1c000, 0xffffc000, 0x7fffc000, 0x8000c000, 0xe000 - 0x10000};
        for (int a : same) {
            Due.be("peek(" + a + ")", x.peek(a), 77);
        }
        Due.be("peek(-1)", x.peek(-1), 3);
        Due.be("peek(2147483647)", x.peek(Integer.MAX_VALUE), 3);
        Due.be("peek(65536)", x.peek(65536), 1);
        Due.be("peek(-65536)", x.peek(-65536), 1);
        Due.be("peek(-2147483648)", x.peek(Integer.MIN_VALUE), 1);
        Due.be("peek(0x18000)", x.peek(0x18000), 49);
        Due.be("peek(0x1bfff)", x.peek(0x1bfff), 52);
        Due.be("register(22), which peek leaves alone", x.register(22), 0);
        Due.be("look(0), which peek leaves alone", x.look(0), 0);
    }

    /** "A byte (v's lowest 8 bits) is written at an address, as the processor does." */
    private static void promise23ValuesGoRound() {
        PadConsole x = marked(65536, true, false);
        int[] values = {255, 256, 257, -1, -256, -255, Integer.MAX_VALUE, Integer.MIN_VALUE};
        int[] due = {255, 0, 1, 255, 0, 1, 255, 0};
        for (int i = 0; i < values.length; i++) {
            x.poke(0xc123, values[i]);
            Due.be("peek behind poke of " + values[i], x.peek(0xc123), due[i]);
            x.poke(0x1ffff - 0x20000, values[i]);
            Due.be("look(11) behind poke of " + values[i], x.look(11), due[i]);
        }
        x.poke(0x1fffc, 0x108);
        Due.be("look(8) behind poke(0x1fffc, 0x108)", x.look(8), 8);
        x.poke(-0x8000, 0x1fe);
        Due.be("battery(0) behind poke(-0x8000, 0x1fe)", x.battery(0), 254);
    }

    /** "BATTERY: 32768 bytes, 0 at first; it stays with load() and reset()." "The battery is 0s." */
    private static void promise26And27TheBattery() {
        PadConsole x = marked(65536, true, false);
        Due.be("battery(0) at first", x.battery(0), 0);
        Due.be("battery(32767) at first", x.battery(32767), 0);
        x.poke(0xfffc, 12);
        x.poke(0xbfff, 66);
        x.poke(0xfffc, 8);
        x.poke(0x8000, 65);
        x.reset();
        Due.be("battery(0) behind reset()", x.battery(0), 65);
        Due.be("battery(32767) behind reset()", x.battery(32767), 66);
        Due.tape(x, 8192, 0);
        Due.be("load()", x.load(), 0);
        Due.be("battery(0) behind load()", x.battery(0), 65);
        Due.be("battery(32767) behind load()", x.battery(32767), 66);
        Due.be("load() of nothing", x.load(), 1);
        Due.be("battery(0) behind a load() of nothing", x.battery(0), 65);
        x.poke(0xc000, 9);
        x.wipe();
        Due.be("battery(0) behind wipe()", x.battery(0), 0);
        Due.be("battery(32767) behind wipe()", x.battery(32767), 0);
        Due.be("peek(0xc000), which wipe() leaves alone", x.peek(0xc000), 9);
        Due.be("peek(0), which wipe() leaves alone", x.peek(0), 0);
        Due.fail("battery(-1)", Due.NONE, () -> x.battery(-1));
        Due.fail("battery(32768)", Due.NONE, () -> x.battery(32768));
    }
}
