/** What all tests share: it counts the answers that are not due, and does on a console what takes several calls. */
final class Due {
    static final long TMR_SEGA = 0x4147455320524d54L;
    static final Class<? extends RuntimeException> ARGUMENT = IllegalArgumentException.class;
    static final Class<? extends RuntimeException> STATE = IllegalStateException.class;
    static final Class<? extends RuntimeException> NONE = java.util.NoSuchElementException.class;

    private static int asked = 0;
    private static int wrong = 0;

    private Due() {
    }

    static void be(String call, long got, long due) {
        asked++;
        if (got != due) {
            wrong++;
            System.out.println(call + " answered " + got + ", due is " + due);
        }
    }

    static void be(String call, boolean got, boolean due) {
        be(call, got ? 1 : 0, due ? 1 : 0);
    }

    static void be(String call, String got, String due) {
        asked++;
        if (!got.equals(due)) {
            wrong++;
            System.out.println(call + " answered " + got + ", due is " + due);
        }
    }

    static void fail(String call, Class<? extends RuntimeException> due, Runnable made) {
        String got = "nothing";
        try {
            made.run();
        } catch (RuntimeException e) {
            got = e.getClass().getSimpleName();
        }
        be(call + " throws", got, due.getSimpleName());
    }

    static void end(String test) {
        System.out.println(test + ": " + asked + " answers, " + wrong + " not as due");
        if (wrong != 0) {
            System.exit(1);
        }
    }

    /** Puts bytes into RAM from 0xc000 on, where the processor goes on then. */
    static void code(PadConsole x, int... bytes) {
        ram(x, 0xc000, bytes);
        x.set(19, 0xc000);
    }

    static void ram(PadConsole x, int address, int... bytes) {
        for (int i = 0; i < bytes.length; i++) {
            x.poke(address + i, bytes[i]);
        }
    }

    static void videoRegister(PadConsole x, int k, int v) {
        x.out(0xbf, v);
        x.out(0xbf, 0x80 | k);
    }

    static void vram(PadConsole x, int address, int... bytes) {
        x.out(0xbf, address & 255);
        x.out(0xbf, 0x40 | address >> 8);
        for (int b : bytes) {
            x.out(0xbe, b);
        }
    }

    static void cram(PadConsole x, int address, int... bytes) {
        x.out(0xbf, address);
        x.out(0xbf, 0xc0);
        for (int b : bytes) {
            x.out(0xbe, b);
        }
    }

    /** A tape of n bytes that repeats the eight bytes of v. */
    static void tape(PadConsole x, int n, long v) {
        x.feed(8, v, 0, 0);
        x.grow(n);
    }

    /** A cartridge of 0s, but each 4096 bytes begin with 16 * bank + 1, 2, 3, 4. */
    static void numbered(PadConsole x, int n, boolean header, boolean secondPaging) {
        tape(x, n, 0);
        for (int place = 0; place < n; place += 4096) {
            x.patch(place, place / 16384 * 16 + place % 16384 / 4096 + 1);
        }
        if (header) {
            x.patch(0x7ff0, TMR_SEGA);
        }
        if (secondPaging) {
            x.patch(0x7fe6, 0xffff0001L);
        }
        be("load() of a numbered cartridge", x.load(), 0);
    }

    /** The console runs on with nothing but a jump to itself. */
    static void idle(PadConsole x) {
        code(x, 0x18, 0xfe);
    }

    /** A console, some 80 calls old, of which nothing is as at first. */
    static PadConsole busy(int kind) {
        PadConsole x = new PadConsole(kind);
        tape(x, 65536, 0x0706050403020109L);
        x.patch(0x7ff0, TMR_SEGA);
        x.load();
        // inc a; inc (ix+03); jr back to the first.
        code(x, 0x3c, 0xdd, 0x34, 0x03, 0x18, 0xfa);
        x.set(16, 0xd000);
        x.set(9, 0x99);
        x.set(25, 1);
        x.poke(0xfffc, 8);
        x.poke(0x8000, 21);
        x.poke(0xffff, 3);
        videoRegister(x, 0, 4);
        videoRegister(x, 1, 0x60);
        videoRegister(x, 10, 9);
        vram(x, 0, 1, 2, 3, 4);
        cram(x, 1, 33);
        x.out(0x7f, 0x85);
        x.out(0x7f, 0x93);
        x.out(0x7f, 0xe5);
        x.out(6, 0x7e);
        x.out(2, 0x31);
        x.out(0xf0, 48);
        x.out(0xf1, 0x10);
        x.out(0xf0, 16);
        x.out(0xf1, 0xab);
        x.out(0xf0, 32);
        x.out(0xf1, 0x18);
        x.out(0xf2, 1);
        x.press(0, 9);
        x.press(1, 35);
        x.start(true);
        x.line(1, false);
        x.stop(0x1234, true);
        x.stop(0xffff, true);
        x.plan(500, 1, 3);
        x.plan(500, 0, 7);
        x.step(1000);
        x.line(1, true);
        x.save();
        x.step(601);
        x.hear();
        x.mix();
        x.tell(0xc001);
        x.feed(10, 0x123456789abcdefL, 0x4321, 0);
        x.pause();
        x.out(0xbf, 0x12);
        return x;
    }

    /** Whether two consoles are alike, as far as some 390 calls can tell; samples and mixes are taken of both. */
    static void same(String what, PadConsole got, PadConsole due) {
        for (int k = 0; k < 27; k++) {
            be(what + ": register(" + k + ")", got.register(k), due.register(k));
        }
        for (int k = 0; k < 96; k++) {
            if (k < 26 || k >= 32) {
                be(what + ": chip(" + k + ")", got.chip(k), due.chip(k));
            }
        }
        for (int k = 0; k < 19; k++) {
            be(what + ": sound(" + k + ")", got.sound(k), due.sound(k));
            be(what + ": look(" + k + ")", got.look(k), due.look(k));
        }
        for (int k = 0; k < 272; k++) {
            if (k < 68 || k >= 128 && k % 8 < 6) {
                be(what + ": wave(" + k + ")", got.wave(k), due.wave(k));
            }
        }
        sameDesk(what, got, due);
        int[] addresses = {0, 0x400, 0x4000, 0x8000, 0xbfff, 0xc000, 0xc001, 0xc005, 0xd003, 0xdfee, 0xdfef, 0xfffc, 0xffff};
        for (int a : addresses) {
            be(what + ": peek(" + a + ")", got.peek(a), due.peek(a));
        }
        for (int p = 0; p < 6; p++) {
            be(what + ": in(" + p + ")", got.in(p), due.in(p));
        }
        be(what + ": in(0xc0)", got.in(0xc0), due.in(0xc0));
        be(what + ": in(0xc1)", got.in(0xc1), due.in(0xc1));
        for (int i = 0; i < 2; i++) {
            be(what + ": a sample", taken(got, true), taken(due, true));
            be(what + ": a mix", taken(got, false), taken(due, false));
        }
    }

    private static void sameDesk(String what, PadConsole got, PadConsole due) {
        for (int k = 0; k < 8; k++) {
            be(what + ": card(" + k + ")", got.card(k), due.card(k));
        }
        int[] places = {0, 0x3fff, 0x4000, 0x7fff};
        for (int k : places) {
            be(what + ": battery(" + k + ")", got.battery(k), due.battery(k));
            be(what + ": video(" + k / 2 + ")", got.video(k / 2), due.video(k / 2));
        }
        int[] few = {0, 1, 31};
        for (int k : few) {
            be(what + ": trace(" + k + ")", got.trace(k), due.trace(k));
            be(what + ": row(" + 4 * k + ")", got.row(4 * k), due.row(4 * k));
        }
        for (int k = 0; k < due.look(18); k += 8) {
            be(what + ": text(" + k + ")", got.text(k), due.text(k));
        }
    }

    private static long taken(PadConsole x, boolean sample) {
        if (x.look(sample ? 3 : 17) == 0) {
            return Long.MIN_VALUE;
        }
        return sample ? x.hear() : x.mix();
    }
}
