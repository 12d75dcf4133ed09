/** What all tests share: it counts the answers that are not due, and does on a console what takes several calls. */
final class Due {
    static final long TMR_SEGA = 0x4147455320524d54L;
    static final Class<? extends RuntimeException> ARGUMENT = IllegalArgumentException.class;
    static final Class<? extends RuntimeException> STATE = IllegalStateException.class;
    static final Class<? extends RuntimeException> NONE = java.util.NoSuchElementException.class;

    private static int asked = 0;
    private static int wrong = 0;

    private Due() {
    }

    static void be(String call, long got, long due) {
        asked++;
        if (got != due) {
            wrong++;
            System.out.println(call + " answered " + got + ", due is " + due);
        }
    }

    static void be(String call, boolean got, boolean due) {
        be(call, got ? 1 : 0, due ? 1 : 0);
    }

    static void be(String call, String got, String due) {
        asked++;
        if (!got.equals(due)) {
            wrong++;
            System.out.println(call + " answered " + got + ", due is " + due);
        }
    }

    static void fail(String call, Class<? extends RuntimeException> due, Runnable made) {
        String got = "nothing";
        try {
            made.run();
        } catch (RuntimeException e) {
            got = e.getClass().getSimpleName();
        }
        be(call + " throws", got, due.getSimpleName());
    }

    static void end(String test) {
        System.out.println(test + ": " + asked + " answers, " + wrong + " not as due");
        if (wrong != 0) {
            System.exit(1);
        }
    }

    /** Puts bytes into RAM from 0xc000 on, where the processor goes on then. */
    static void code(PadConsole x, int... bytes) {
        ram(x, 0xc000, bytes);
        x.set(19, 0xc000);
    }

    static void ram(PadConsole x, int address, int... bytes) {
        for (int i = 0; i < bytes.length; i++) {
            x.poke(address + i, bytes[i]);
        }
    }

    static void videoRegister(PadConsole x, int k, int v) {
        x.out(0xbf, v);
        x.out(0xbf, 0x80 | k);
    }

    static void vram(PadConsole x, int address, int... bytes) {
        x.out(0xbf, address & 255);
        x.out(0xbf, 0x40 | address >> 8);
        for (int b : bytes) {
            x.out(0xbe, b);
        }
    }

    static void cram(PadConsole x, int address, int... bytes) {
        x.out(0xbf, address);
        x.out(0xbf, 0xc0);
        for (int b : bytes) {
            x.out(0xbe, b);
        }
    }

    /** A tape of n bytes that repeats the eight bytes of v. */
    static void tape(PadConsole x, int n, long v) {
        x.feed(8, v, 0, 0);
        x.grow(n);
    }

    /** A cartridge of 0s, but each 4096 bytes begin with 16 * bank + 1, 2, 3, 4. */
    static void numbered(PadConsole x, int n, boolean header, boolean secondPaging) {
        tape(x, n, 0);
        for (int place = 0; place < n; place += 4096) {
            x.patch(place, place / 16384 * 16 + place % 16384 / 4096 + 1);
        }
        if (header) {
            x.patch(0x7ff0, TMR_SEGA);
        }
        if (secondPaging) {
            x.patch(0x7fe6, 0xffff0001L);
        }
        be("load() of a numbered cartridge", x.load(), 0);
    }

    /** The console runs on with nothing but a jump to itself. */
    static void idle(PadConsole x) {
        code(x, 0x18, 0xfe);
    }
}
