/** The edges of TEXT and of promises 15, 16 (tell, text), sentence by sentence. */
public final class TextEdgesTest {
    private TextEdgesTest() {
    }

    public static void main(String[] args) {
        promise15OneToFourBytes();
        promise15AddressesGoRound();
        promise15OverTheEndOfAllAddresses();
        promise15TheAddressBehindGrownByE();
        promise15SignedPlaces();
        promise15NumbersHaveTwoOrFourDigits();
        promise15APrefixAlone();
        promise15OthersAreNop();
        promise15HlBesideAPlace();
        promise15ChangesNothingElse();
        promise16EightSignsFromK();
        promise16TheLongestAndTheShortest();
        promise16EmptyAtFirst();
        promise16TextStays();
        Due.end("TextEdgesTest");
    }

    private static String textOf(PadConsole x) {
        StringBuilder text = new StringBuilder();
        int length = (int) x.look(18);
        for (int k = 0; k < length; k += 8) {
            long eight = x.text(k);
            for (int i = 0; i < 8; i++) {
                int sign = (int) (eight >>> 8 * i & 255);
                if (k + i < length) {
                    text.append((char) sign);
                } else {
                    Due.be("a sign behind the end", sign, 0);
                }
            }
        }
        return text.toString();
    }

    private static void told(PadConsole x, int bytes, String due, int... code) {
        Due.ram(x, 0xd000, code);
        Due.be("tell of " + due, x.tell(0xd000), bytes);
        Due.be("text", textOf(x), due);
        Due.be("look(18) of " + due, x.look(18), due.length());
    }

    /** "how many bytes it has (1 .. 4)". */
    private static void promise15OneToFourBytes() {
        PadConsole x = new PadConsole(0);
        told(x, 1, "xor a", 0xaf);
        told(x, 2, "cp 00", 0xfe, 0x00);
        told(x, 2, "sll (hl)", 0xcb, 0x36);
        told(x, 2, "rld", 0xed, 0x6f);
        told(x, 3, "jp p,fffe", 0xf2, 0xfe, 0xff);
        told(x, 4, "ld (0001),de", 0xed, 0x53, 0x01, 0x00);
        told(x, 2, "sub iyl", 0xfd, 0x95);
        told(x, 3, "sub (iy+10)", 0xfd, 0x96, 0x10);
        told(x, 4, "ld iy,(1234)", 0xfd, 0x2a, 0x34, 0x12);
        told(x, 4, "ld (ix-01),0a", 0xdd, 0x36, 0xff, 0x0a);
        told(x, 4, "rr (ix+00)", 0xdd, 0xcb, 0x00, 0x1e);
        told(x, 2, "ld sp,ix", 0xdd, 0xf9);
        PadConsole y = new PadConsole(0);
        told(y, 2, "ex (sp),iy", 0xfd, 0xe3);
        told(y, 2, "exx", 0xdd, 0xd9);
        told(y, 2, "halt", 0xfd, 0x76);
        told(y, 4, "call 0000", 0xdd, 0xcd, 0x00, 0x00);
        told(y, 3, "ld ixl,ff", 0xdd, 0x2e, 0xff);
        told(y, 3, "out (ff),a", 0xdd, 0xd3, 0xff);
        told(y, 2, "add ix,ix", 0xdd, 0x29);
        told(y, 2, "pop iy", 0xfd, 0xe1);
        told(y, 2, "ex af,af2", 0xdd, 0x08);
    }

    /** "at an address (its lowest 16 bits)". */
    private static void promise15AddressesGoRound() {
        PadConsole x = new PadConsole(0);
        Due.tape(x, 8192, 0xc3);
        x.load();
        Due.ram(x, 0xffff, 0x76);
        Due.ram(x, 0xc000, 0xf3);
        int[] last = {0xffff, -1, 0x1ffff, Integer.MAX_VALUE};
        for (int a : last) {
            Due.be("tell(" + a + ")", x.tell(a), 1);
            Due.be("text", textOf(x), "halt");
        }
        int[] first = {0, 0x10000, -0x10000, Integer.MIN_VALUE};
        for (int a : first) {
            Due.be("tell(" + a + ")", x.tell(a), 3);
            Due.be("text", textOf(x), "jp 0000");
        }
        int[] ram = {0xc000, 0x1c000, -0x4000, 0xe000};
        for (int a : ram) {
            Due.be("tell(" + a + ")", x.tell(a), 1);
            Due.be("text", textOf(x), "di");
        }
    }

    /** An instruction that goes on at 0. */
    private static void promise15OverTheEndOfAllAddresses() {
        PadConsole x = new PadConsole(0);
        Due.tape(x, 8192, 0x46dd9a5aL);
        x.load();
        x.poke(0xffff, 0x3e);
        Due.be("tell(0xffff) of two bytes", x.tell(0xffff), 2);
        Due.be("text", textOf(x), "ld a,5a");
        x.poke(0xffff, 0xc3);
        Due.be("tell(0xffff) of three bytes", x.tell(0xffff), 3);
        Due.be("text", textOf(x), "jp 9a5a");
        Due.ram(x, 0xfffe, 0xdd, 0xcb);
        Due.be("tell(0xfffe) of four bytes", x.tell(0xfffe), 4);
        Due.be("text", textOf(x), "res 3,(ix+5a),d");
        Due.ram(x, 0xfffd, 0xed, 0x4b, 0x12);
        Due.be("tell(0xfffd) of four bytes", x.tell(0xfffd), 4);
        Due.be("text", textOf(x), "ld bc,(5a12)");
        Due.ram(x, 0xffff, 0xfd);
        Due.be("tell(0xffff) of a prefix", x.tell(0xffff), 2);
        Due.be("text", textOf(x), "ld e,d");
    }

    /** "w (the address behind, for e, grown by it)": e from -128 to 127, round both ends. */
    private static void promise15TheAddressBehindGrownByE() {
        PadConsole x = new PadConsole(0);
        Due.tape(x, 8192, 0x80307f2880107f18L);
        x.load();
        String[] due = {"jr 0081", "djnz ff84", "jr z,0085", "jr nc,ff88"};
        for (int i = 0; i < 4; i++) {
            Due.be("tell(" + 2 * i + ")", x.tell(2 * i), 2);
            Due.be("text", textOf(x), due[i]);
        }
        int[] es = {0x00, 0x01, 0x7f, 0x80, 0xfe, 0xff};
        String[] end = {"jr 0000", "jr 0001", "jr 007f", "jr ff80", "jr fffe", "jr ffff"};
        for (int i = 0; i < es.length; i++) {
            Due.ram(x, 0xfffe, 0x18, es[i]);
            Due.be("tell(0xfffe)", x.tell(0xfffe), 2);
            Due.be("text", textOf(x), end[i]);
        }
        Due.ram(x, 0xfffd, 0xdd, 0x38, 0x05);
        Due.be("tell(0xfffd) with a prefix", x.tell(0xfffd), 3);
        Due.be("text", textOf(x), "jr c,0005");
    }

    /** "d + (also of 0) or - and two such digits". */
    private static void promise15SignedPlaces() {
        int[] d = {0x00, 0x01, 0x0f, 0x10, 0x7f, 0x80, 0x81, 0xf0, 0xff};
        String[] due = {"+00", "+01", "+0f", "+10", "+7f", "-80", "-7f", "-10", "-01"};
        for (int i = 0; i < d.length; i++) {
            PadConsole x = new PadConsole(0);
            told(x, 3, "ld a,(ix" + due[i] + ")", 0xdd, 0x7e, d[i]);
            told(x, 3, "ld (iy" + due[i] + "),h", 0xfd, 0x74, d[i]);
            told(x, 4, "ld (iy" + due[i] + "),80", 0xfd, 0x36, d[i], 0x80);
            told(x, 4, "bit 0,(ix" + due[i] + ")", 0xdd, 0xcb, d[i], 0x40);
            told(x, 4, "set 7,(iy" + due[i] + "),h", 0xfd, 0xcb, d[i], 0xfc);
        }
    }

    /** "numbers n as two, nn, w .. as four digits 0 .. f". */
    private static void promise15NumbersHaveTwoOrFourDigits() {
        PadConsole x = new PadConsole(0);
        told(x, 2, "ld b,00", 0x06, 0x00);
        told(x, 2, "ld b,09", 0x06, 0x09);
        told(x, 2, "ld b,0a", 0x06, 0x0a);
        told(x, 2, "ld b,a0", 0x06, 0xa0);
        told(x, 2, "ld b,ff", 0x06, 0xff);
        told(x, 3, "ld sp,0000", 0x31, 0x00, 0x00);
        told(x, 3, "ld sp,000f", 0x31, 0x0f, 0x00);
        told(x, 3, "ld sp,f000", 0x31, 0x00, 0xf0);
        told(x, 3, "ld sp,ffff", 0x31, 0xff, 0xff);
        PadConsole y = new PadConsole(0);
        for (int k = 0; k < 8; k++) {
            told(y, 1, "rst " + "0123".charAt(k / 2) + "08".charAt(k % 2), 0xc7 + 8 * k);
        }
        PadConsole z = new PadConsole(0);
        for (int k = 0; k < 8; k++) {
            told(z, 2, "res " + k + ",a", 0xcb, 0x87 + 8 * k);
        }
        told(z, 2, "out (c),0", 0xed, 0x71);
        told(z, 2, "in (c)", 0xed, 0x70);
    }

    /** "a prefix alone: nop": where 0xdd, 0xed or 0xfd follows, and it has one byte. */
    private static void promise15APrefixAlone() {
        int[] prefixes = {0xdd, 0xfd};
        int[] alone = {0xdd, 0xed, 0xfd};
        PadConsole x = new PadConsole(0);
        for (int p : prefixes) {
            for (int next : alone) {
                told(x, 1, "nop", p, next);
            }
            told(x, 2, "rst 20", p, 0xe7);
            told(x, 2, p == 0xdd ? "cp ixh" : "cp iyh", p, 0xbc);
            told(x, 2, "ei", p, 0xfb);
            told(x, 3, "in a,(00)", p, 0xdb, 0x00);
        }
        // At the last address the byte at 0 tells whether it is alone.
        PadConsole y = new PadConsole(0);
        Due.tape(y, 8192, 0x44ed);
        y.load();
        y.poke(0xffff, 0xdd);
        Due.be("tell(0xffff) of a prefix alone", y.tell(0xffff), 1);
        Due.be("text", textOf(y), "nop");
        Due.be("tell(0)", y.tell(0), 2);
        Due.be("text", textOf(y), "neg");
    }

    /** MORE: "others nop", each with two bytes. */
    private static void promise15OthersAreNop() {
        int[] others = {0x00, 0x3f, 0x77, 0x7f, 0x80, 0x9f, 0xa4, 0xa7, 0xac, 0xb4, 0xbf, 0xc0, 0xff};
        PadConsole x = new PadConsole(0);
        for (int op : others) {
            told(x, 2, "nop", 0xed, op);
        }
        PadConsole y = new PadConsole(0);
        int[] edges = {0x40, 0x7e, 0xa0, 0xa3, 0xa8, 0xbb, 0x45, 0x4d, 0x7d, 0x5e, 0x76};
        String[] due = {"in b,(c)", "im 2", "ldi", "outi", "ldd", "otdr", "retn", "reti", "retn", "im 2", "im 1"};
        for (int i = 0; i < edges.length; i++) {
            told(y, 2, due[i], 0xed, edges[i]);
        }
    }

    /** "ixh, ixl, iyh, iyl for h, l (but not beside (ix+d))". */
    private static void promise15HlBesideAPlace() {
        PadConsole x = new PadConsole(0);
        told(x, 3, "ld h,(ix+05)", 0xdd, 0x66, 0x05);
        told(x, 3, "ld l,(iy-05)", 0xfd, 0x6e, 0xfb);
        told(x, 3, "ld (ix+05),l", 0xdd, 0x75, 0x05);
        told(x, 2, "ld ixh,ixl", 0xdd, 0x65);
        told(x, 2, "ld iyl,a", 0xfd, 0x6f);
        told(x, 2, "ld b,iyh", 0xfd, 0x44);
        told(x, 3, "ld ixh,42", 0xdd, 0x26, 0x42);
        told(x, 4, "rlc (ix+05),h", 0xdd, 0xcb, 0x05, 0x04);
        told(x, 4, "rlc (ix+05)", 0xdd, 0xcb, 0x05, 0x06);
        PadConsole y = new PadConsole(0);
        told(y, 4, "bit 7,(iy+05)", 0xfd, 0xcb, 0x05, 0x7f);
        told(y, 4, "bit 7,(iy+05)", 0xfd, 0xcb, 0x05, 0x7e);
        told(y, 4, "res 7,(iy+05),a", 0xfd, 0xcb, 0x05, 0xbf);
        told(y, 4, "res 7,(iy+05)", 0xfd, 0xcb, 0x05, 0xbe);
        told(y, 1, "ld (hl),h", 0x74);
        told(y, 2, "bit 7,h", 0xcb, 0x7c);
        told(y, 2, "adc hl,hl", 0xed, 0x6a);
    }

    /** TEXT alone changes. */
    private static void promise15ChangesNothingElse() {
        PadConsole x = Due.busy(0);
        x.tell(0);
        x.tell(0x8000);
        x.tell(0xc000);
        x.tell(0xffff);
        x.tell(0xc001);
        Due.same("behind tell", x, Due.busy(0));
    }

    /** "Eight signs of TEXT from k on, lowest first (0 behind its end)." */
    private static void promise16EightSignsFromK() {
        PadConsole x = new PadConsole(0);
        String due = "set 7,(ix-80),a";
        told(x, 4, due, 0xdd, 0xcb, 0x80, 0xff);
        for (int k = 0; k < due.length(); k++) {
            long eight = 0;
            for (int i = 7; i >= 0; i--) {
                eight = eight << 8 | (k + i < due.length() ? due.charAt(k + i) : 0);
            }
            Due.be("text(" + k + ")", x.text(k), eight);
        }
        Due.be("text(7), eight signs to the end", x.text(7) >>> 56, 'a');
        Due.be("text(8), seven and a 0", x.text(8) >>> 56, 0);
        Due.fail("text(15)", Due.NONE, () -> x.text(15));
        Due.fail("text(-1)", Due.NONE, () -> x.text(-1));
    }

    /** A shorter text leaves nothing of a longer one. */
    private static void promise16TheLongestAndTheShortest() {
        PadConsole x = new PadConsole(0);
        told(x, 4, "set 7,(ix-80),a", 0xdd, 0xcb, 0x80, 0xff);
        told(x, 1, "ei", 0xfb);
        Due.be("text(0) of ei", x.text(0), 'e' | 'i' << 8);
        Due.be("text(1) of ei", x.text(1), 'i');
        for (int k = 2; k < 16; k++) {
            int none = k;
            Due.fail("text(" + k + ") of ei", Due.NONE, () -> x.text(none));
        }
        told(x, 4, "set 7,(ix-80),a", 0xdd, 0xcb, 0x80, 0xff);
        Due.be("text(14)", x.text(14), 'a');
    }

    /** "NoSuchElementException when there is no sign k (it is empty at first)". */
    private static void promise16EmptyAtFirst() {
        PadConsole x = new PadConsole(0);
        Due.be("look(18) at first", x.look(18), 0);
        Due.fail("text(0) at first", Due.NONE, () -> x.text(0));
        x.reset();
        Due.tape(x, 8192, 0);
        x.load();
        x.save();
        x.restore();
        Due.fail("text(0) still", Due.NONE, () -> x.text(0));
        Due.be("tell(0)", x.tell(0), 1);
        Due.be("text(0)", x.text(0), 'n' | 'o' << 8 | 'p' << 16);
    }

    /** TEXT is what was told, whatever is written or loaded then. */
    private static void promise16TextStays() {
        PadConsole x = new PadConsole(0);
        told(x, 1, "halt", 0x76);
        x.poke(0xd000, 0);
        Due.be("text behind poke()", textOf(x), "halt");
        x.save();
        x.tell(0xd000);
        x.restore();
        Due.be("text behind restore()", textOf(x), "nop");
        x.reset();
        Due.be("text behind reset()", textOf(x), "nop");
        Due.tape(x, 8192, 0);
        x.load();
        Due.be("text behind load()", textOf(x), "nop");
    }
}
