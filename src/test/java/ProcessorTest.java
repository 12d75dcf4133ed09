/** Promises 7, 20, 21: steps of the processor, register and set; each instruction by itself is in runs/processor.txt. */
public final class ProcessorTest {
    private ProcessorTest() {
    }

    public static void main(String[] args) {
        registers();
        oneMoreAndLess();
        sums();
        differences();
        addingPairs();
        wide();
        adjusting();
        halting();
        growingR();
        interruptOne();
        interruptTwo();
        interruptWaits();
        prefixes();
        places();
        repeating();
        carriesOfPorts();
        programInPages();
        Due.end("ProcessorTest");
    }

    private static void registers() {
        PadConsole x = new PadConsole(0);
        Due.fail("register(-1)", Due.ARGUMENT, () -> x.register(-1));
        Due.fail("register(27)", Due.ARGUMENT, () -> x.register(27));
        Due.fail("set(-1, 0)", Due.ARGUMENT, () -> x.set(-1, 0));
        Due.fail("set(26, 1)", Due.ARGUMENT, () -> x.set(26, 1));
        for (int k = 0; k < 26; k++) {
            x.set(k, 0x1f0000 + 0x1111 * (k + 1));
        }
        for (int k = 0; k < 26; k++) {
            int v = 0x1f0000 + 0x1111 * (k + 1);
            int due = k < 16 || k == 21 || k == 22 ? v & 255 : k < 21 ? v & 65535 : v & 1;
            if (k == 25) {
                due = Math.min(2, v & 3);
            }
            Due.be("register(" + k + ")", x.register(k), due);
        }
        Due.be("register(26)", x.register(26), 0);
        int[] modes = {0, 1, 2, 2, 0, 1, 2, 2};
        for (int v = 0; v < 8; v++) {
            x.set(25, v);
            Due.be("register(25) as " + v, x.register(25), modes[v]);
        }
        x.set(23, 2);
        Due.be("register(23) as 2", x.register(23), 0);
        x.set(24, -1);
        Due.be("register(24) as -1", x.register(24), 1);
        x.set(19, -1);
        Due.be("register(19) as -1", x.register(19), 65535);
    }

    private static int by(int v) {
        return v & 0xa8 | (v == 0 ? 64 : 0);
    }

    private static void oneMoreAndLess() {
        PadConsole x = new PadConsole(0);
        for (int v = 0; v < 256; v++) {
            if (v % 32 == 0) {
                x = new PadConsole(0);
            }
            for (int less = 0; less < 2; less++) {
                Due.code(x, 0x3c + less);
                x.set(0, v);
                x.set(1, v);
                x.step(1);
                int w = (less == 1 ? v - 1 : v + 1) & 255;
                int f = by(w) | v & 1 | (less == 1 ? 2 : 0)
                    | ((w & 15) == 15 * less ? 16 : 0) | (w == 0x80 - less ? 4 : 0);
                Due.be("A of " + v, x.register(0), w);
                Due.be("F of " + v, x.register(1), f);
            }
        }
    }

    /** ADD and ADC with n, from many A, n and C. */
    private static void sums() {
        for (int a = 0; a < 256; a += 17) {
            PadConsole x = new PadConsole(0);
            Due.code(x, 0xc6, 0);
            for (int b = 1; b < 256; b += 13) {
                for (int carry = 0; carry < 2; carry++) {
                    x.poke(0xc000, carry == 1 ? 0xce : 0xc6);
                    x.poke(0xc001, b);
                    x.set(19, 0xc000);
                    x.set(0, a);
                    x.set(1, 255);
                    x.step(1);
                    int v = a + b + carry & 255;
                    int signed = (byte) a + (byte) b + carry;
                    int f = by(v) | ((a & 15) + (b & 15) + carry > 15 ? 16 : 0)
                        | (signed < -128 || signed > 127 ? 4 : 0) | (a + b + carry > 255 ? 1 : 0);
                    Due.be("A of " + a + " + " + b + " + " + carry, x.register(0), v);
                    Due.be("F of " + a + " + " + b + " + " + carry, x.register(1), f);
                }
            }
        }
    }

    /** SUB, SBC and CP with n, from many A, n and C. */
    private static void differences() {
        int[] ops = {0xd6, 0xde, 0xfe};
        for (int a = 0; a < 256; a += 15) {
            PadConsole x = new PadConsole(0);
            Due.code(x, 0xd6, 0);
            for (int b = 0; b < 256; b += 20) {
                for (int k = 0; k < 3; k++) {
                    x.poke(0xc000, ops[k]);
                    x.poke(0xc001, b);
                    x.set(19, 0xc000);
                    x.set(0, a);
                    x.set(1, 255);
                    x.step(1);
                    int carry = k == 1 ? 1 : 0;
                    int v = a - b - carry & 255;
                    int signed = (byte) a - (byte) b - carry;
                    int f = (k == 2 ? by(v) & ~0x28 | b & 0x28 : by(v)) | ((a & 15) - (b & 15) - carry < 0 ? 16 : 0)
                        | (signed < -128 || signed > 127 ? 4 : 0) | 2 | (a - b - carry < 0 ? 1 : 0);
                    Due.be("A of " + a + " - " + b + " - " + carry, x.register(0), k == 2 ? a : v);
                    Due.be("F of " + a + " - " + b + " - " + carry, x.register(1), f);
                }
            }
        }
    }

    /** ADD of HL and DE, which leaves S, Z and P alone. */
    private static void addingPairs() {
        int[] words = {0, 1, 0x0801, 0x0fff, 0x1000, 0x7fff, 0x8000, 0xffff};
        for (int a : words) {
            PadConsole x = new PadConsole(0);
            for (int b : words) {
                for (int f = 0; f < 256; f += 255) {
                    Due.code(x, 0x19);
                    x.set(6, a >> 8);
                    x.set(7, a);
                    x.set(4, b >> 8);
                    x.set(5, b);
                    x.set(1, f);
                    x.step(1);
                    int v = a + b & 0xffff;
                    int due = f & 0xc4 | v >> 8 & 0x28 | ((a & 0xfff) + (b & 0xfff) > 0xfff ? 16 : 0)
                        | (a + b > 0xffff ? 1 : 0);
                    Due.be("HL of " + a + " + " + b, 256 * x.register(6) + x.register(7), v);
                    Due.be("F of " + a + " + " + b, x.register(1), due);
                    Due.be("WZ of " + a + " + " + b, x.register(20), a + 1 & 0xffff);
                }
            }
        }
    }

    /** ADC and SBC of HL and BC. */
    private static void wide() {
        int[] words = {0, 1, 0x0fff, 0x1000, 0x7fff, 0x8000, 0xfffe, 0xffff};
        for (int a : words) {
            PadConsole x = new PadConsole(0);
            for (int b : words) {
                for (int k = 0; k < 4; k++) {
                    boolean minus = k >= 2;
                    int carry = k & 1;
                    Due.code(x, 0xed, minus ? 0x42 : 0x4a);
                    x.set(6, a >> 8);
                    x.set(7, a);
                    x.set(2, b >> 8);
                    x.set(3, b);
                    x.set(1, 0xfe | carry);
                    x.step(1);
                    int all = minus ? a - b - carry : a + b + carry;
                    int signed = minus ? (short) a - (short) b - carry : (short) a + (short) b + carry;
                    int half = minus ? (a & 0xfff) - (b & 0xfff) - carry : (a & 0xfff) + (b & 0xfff) + carry;
                    int v = all & 0xffff;
                    int f = v >> 8 & 0xa8 | (v == 0 ? 64 : 0) | (half < 0 || half > 0xfff ? 16 : 0)
                        | (signed != (short) signed ? 4 : 0) | (minus ? 2 : 0) | (all != v ? 1 : 0);
                    Due.be("HL of " + a + ", " + b + ", " + k, 256 * x.register(6) + x.register(7), v);
                    Due.be("F of " + a + ", " + b + ", " + k, x.register(1), f);
                }
            }
        }
    }

    /** DAA behind sums and differences of two decimal digits. */
    private static void adjusting() {
        for (int i = 0; i < 100; i += 7) {
            PadConsole x = new PadConsole(0);
            for (int k = 0; k < 100; k += 9) {
                for (int minus = 0; minus < 2; minus++) {
                    Due.code(x, minus == 1 ? 0xd6 : 0xc6, k / 10 * 16 + k % 10, 0x27);
                    x.set(0, i / 10 * 16 + i % 10);
                    x.step(2);
                    int due = Math.floorMod(minus == 1 ? i - k : i + k, 100);
                    Due.be("daa of " + i + ", " + k, x.register(0), due / 10 * 16 + due % 10);
                    boolean carry = minus == 1 ? i < k : i + k > 99;
                    Due.be("C of daa of " + i + ", " + k, x.register(1) & 1, carry ? 1 : 0);
                }
            }
        }
    }

    private static void halting() {
        PadConsole x = new PadConsole(0);
        Due.code(x, 0x76, 0x3c);
        x.step(1);
        Due.be("register(26)", x.register(26), 1);
        Due.be("register(19)", x.register(19), 0xc001);
        x.step(10);
        Due.be("register(19) ten steps on", x.register(19), 0xc001);
        Due.be("register(22) ten steps on", x.register(22), 11);
        Due.be("look(0) ten steps on", x.look(0), 44);
        x.reset();
        Due.be("register(26) behind reset()", x.register(26), 0);
    }

    private static void growingR() {
        PadConsole x = new PadConsole(0);
        Due.code(x, 0x00, 0xcb, 0x00, 0xed, 0x44, 0xdd, 0x23, 0xdd, 0xcb, 0x00, 0x06, 0xdd, 0xdd, 0x00);
        int[] due = {0x80, 0x82, 0x84, 0x86, 0x88, 0x89, 0x8b};
        x.set(22, 0xff);
        for (int r : due) {
            x.step(1);
            Due.be("register(22)", x.register(22), r);
        }
    }

    /** A console whose video chip asks at the end of each line. */
    private static PadConsole asking(int kind) {
        PadConsole x = new PadConsole(kind);
        Due.videoRegister(x, 0, 0x10);
        Due.idle(x);
        x.step(19);
        Due.be("chip(17)", x.chip(17), 1);
        return x;
    }

    private static void interruptOne() {
        for (int mode = 0; mode < 2; mode++) {
            PadConsole x = asking(0);
            x.step(3);
            Due.be("register(19) with IFF1 0", x.register(19), 0xc000);
            x.set(23, 1);
            x.set(24, 1);
            x.set(25, mode);
            int r = x.register(22);
            long beats = x.look(0);
            x.step(1);
            Due.be("register(19)", x.register(19), 0x38);
            Due.be("register(20)", x.register(20), 0x38);
            Due.be("register(23)", x.register(23), 0);
            Due.be("register(24)", x.register(24), 0);
            Due.be("register(22)", x.register(22), r + 1);
            Due.be("look(0)", x.look(0), beats + 13);
            Due.be("peek of what was pushed", x.peek(0xdfef), 0xc0);
            x.set(23, 1);
            x.in(0xbf);
            Due.be("chip(17) behind in(0xbf)", x.chip(17), 0);
            x.step(1);
            Due.be("register(19), of rst 38 without a cartridge", x.register(19), 0x38);
            Due.be("look(0), of rst 38 without a cartridge", x.look(0), beats + 24);
        }
    }

    private static void interruptTwo() {
        PadConsole x = asking(0);
        Due.ram(x, 0xd1ff, 0x34, 0x12);
        Due.code(x, 0x76);
        x.step(1);
        x.set(21, 0xd1);
        x.set(23, 1);
        x.set(25, 2);
        long beats = x.look(0);
        x.step(1);
        Due.be("register(19)", x.register(19), 0x1234);
        Due.be("register(20)", x.register(20), 0x1234);
        Due.be("register(26)", x.register(26), 0);
        Due.be("look(0)", x.look(0), beats + 19);
        Due.be("peek of what was pushed", x.peek(0xdfee), 1);
    }

    private static void interruptWaits() {
        PadConsole x = asking(1);
        Due.code(x, 0xfb, 0x00, 0x00);
        x.step(1);
        x.step(1);
        Due.be("register(19) a step behind EI", x.register(19), 0xc002);
        x.step(1);
        Due.be("register(19) two steps behind EI", x.register(19), 0x38);
        x.set(23, 1);
        Due.code(x, 0xdd, 0xfd, 0x23, 0x00);
        x.set(23, 0);
        x.step(1);
        x.set(23, 1);
        x.step(1);
        Due.be("register(19) a step behind a prefix alone", x.register(19), 0xc003);
        x.step(1);
        Due.be("register(19) two steps behind a prefix alone", x.register(19), 0x38);
        Due.code(x, 0xf3, 0xdd, 0xfb, 0x00);
        x.step(3);
        Due.be("register(19) behind EI with a prefix", x.register(19), 0xc004);
        x.set(23, 1);
        x.pause();
        x.step(1);
        Due.be("register(19), the pause first", x.register(19), 0x66);
    }

    private static void prefixes() {
        PadConsole x = new PadConsole(0);
        Due.code(x, 0xdd, 0xdd, 0x21, 0x34, 0x12, 0xfd, 0x21, 0x78, 0x56, 0xdd, 0xeb, 0xfd, 0xd9, 0xdd, 0x7c, 0xfd, 0x65);
        x.set(4, 0x11);
        x.set(6, 0x22);
        x.step(1);
        Due.be("look(0) of a prefix alone", x.look(0), 4);
        x.step(1);
        Due.be("look(0)", x.look(0), 18);
        Due.be("IX", x.register(16), 0x1234);
        x.step(1);
        Due.be("IY", x.register(17), 0x5678);
        x.step(1);
        Due.be("D behind ex de,hl with a prefix", x.register(4), 0x22);
        Due.be("H behind ex de,hl with a prefix", x.register(6), 0x11);
        Due.be("IX behind ex de,hl with a prefix", x.register(16), 0x1234);
        x.step(1);
        Due.be("H behind exx with a prefix", x.register(6), 0);
        Due.be("IY behind exx with a prefix", x.register(17), 0x5678);
        x.step(1);
        Due.be("A behind ld a,ixh", x.register(0), 0x12);
        x.step(1);
        Due.be("IY behind ld iyh,iyl", x.register(17), 0x7878);
        Due.be("look(0) of it all", x.look(0), 18 + 14 + 8 * 4);
    }

    private static void places() {
        PadConsole x = new PadConsole(0);
        Due.code(x, 0xdd, 0x66, 0x80, 0xfd, 0x36, 0x7f, 0x99, 0xdd, 0xcb, 0xff, 0x04, 0xdd, 0xcb, 0x00, 0x46, 0xdd, 0x34, 0x02);
        Due.ram(x, 0xd000, 0x41, 0x42, 0x43);
        x.set(16, 0xd080);
        x.set(17, 0xcf82);
        x.step(1);
        Due.be("H behind ld h,(ix-80)", x.register(6), 0x41);
        Due.be("WZ", x.register(20), 0xd000);
        Due.be("look(0)", x.look(0), 19);
        x.step(1);
        Due.be("peek behind ld (iy+7f),99", x.peek(0xd001), 0x99);
        Due.be("look(0)", x.look(0), 38);
        x.set(16, 0xd003);
        x.step(1);
        Due.be("peek behind rlc (ix-01),h", x.peek(0xd002), 0x86);
        Due.be("H behind rlc (ix-01),h", x.register(6), 0x86);
        Due.be("look(0)", x.look(0), 61);
        x.set(16, 0xe802);
        x.step(1);
        Due.be("F behind bit 0,(ix+00), with Y and X of 0xe8", x.register(1) & 0x28, 0x28);
        Due.be("look(0)", x.look(0), 81);
        x.set(16, 0xd000);
        x.step(1);
        Due.be("peek behind inc (ix+02)", x.peek(0xd002), 0x87);
        Due.be("look(0)", x.look(0), 104);
    }

    private static void repeating() {
        PadConsole x = new PadConsole(0);
        Due.code(x, 0xed, 0xb0);
        Due.ram(x, 0xd000, 1, 2, 3);
        x.set(6, 0xd0);
        x.set(4, 0xd8);
        x.set(3, 3);
        x.step(1);
        Due.be("register(19) of ldir", x.register(19), 0xc000);
        Due.be("register(20) of ldir", x.register(20), 0xc001);
        Due.be("look(0)", x.look(0), 21);
        x.step(2);
        Due.be("register(19) behind ldir", x.register(19), 0xc002);
        Due.be("look(0)", x.look(0), 58);
        Due.be("peek", x.peek(0xd802), 3);
        Due.be("L", x.register(7), 3);
        Due.be("E", x.register(5), 3);
        Due.be("C", x.register(3), 0);
        Due.be("P", x.register(1) & 4, 0);
    }

    /** H and C of outi and ini, where k is 255 and 256. */
    private static void carriesOfPorts() {
        PadConsole x = new PadConsole(0);
        for (int k = 255; k <= 256; k++) {
            int due = k > 255 ? 0x11 : 0;
            Due.code(x, 0xed, 0xa3);
            x.set(6, 0xd0);
            x.set(7, 0x0f);
            x.set(3, 0xc0);
            x.poke(0xd00f, k - 0x10);
            x.step(1);
            Due.be("H and C of outi with " + k, x.register(1) & 0x11, due);
            Due.code(x, 0xed, 0xa2);
            x.set(3, 0xdc);
            // With all of pad 1 pressed the port gives what is not pressed of pad 0; C + 1 is 0xdd.
            x.press(1, 63);
            x.press(0, 0x3f - (k - 0xdd));
            x.step(1);
            Due.be("H and C of ini with " + k, x.register(1) & 0x11, due);
        }
    }

    private static void programInPages() {
        PadConsole x = new PadConsole(0);
        Due.tape(x, 65536, 0);
        x.patch(0x7ff0, Due.TMR_SEGA);
        // ld a,3; ld (ffff),a; ld a,(8000)
        x.patch(0, 0x80003affff32033eL);
        x.patch(3 * 16384, 0x5a);
        x.load();
        x.step(3);
        Due.be("A, read from bank 3", x.register(0), 0x5a);
        Due.be("look(11)", x.look(11), 3);
    }
}
