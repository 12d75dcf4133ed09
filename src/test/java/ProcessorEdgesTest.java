/** The edges of THE PROCESSOR and of promises 20, 21 (register, set): what goes round, and where a rule begins and ends. */
public final class ProcessorEdgesTest {
    private static final int A = 0;
    private static final int F = 1;
    private static final int B = 2;
    private static final int IX = 16;
    private static final int IY = 17;
    private static final int SP = 18;
    private static final int PC = 19;
    private static final int WZ = 20;

    private ProcessorEdgesTest() {
    }

    public static void main(String[] args) {
        promise20And21EveryRegister();
        promise21ItsLowestBits();
        pcGoesRound();
        jumpsGoRound();
        djnzEndsWithB0();
        pairsGoRound();
        bytesGoRound();
        wordsInMemoryGoRound();
        theStackGoesRound();
        wzGoesRound();
        wzOfPorts();
        placesGoRound();
        copiesGoRound();
        comparesGoRound();
        portBlocksGoRound();
        blocksBeginAgainRound();
        repeatsEnd();
        adjustsEveryByte();
        negates();
        turnsEveryEdge();
        asksBits();
        digitsTurn();
        conditions();
        modes();
        rGrowsRound();
        theVectorGoesRound();
        eiHoldsForOneStep();
        prefixAloneHoldsForOneStep();
        interruptsNeedIff1AndAsking();
        haltsUntilCalled();
        othersOfMoreDoNothing();
        hAndLBesideAPlace();
        flagsThatStay();
        Due.end("ProcessorEdgesTest");
    }

    /** A console with bytes from address 0 on, which nothing can write. */
    private static PadConsole withRom(int... bytes) {
        PadConsole x = new PadConsole(0);
        long first = 0;
        for (int i = bytes.length - 1; i >= 0; i--) {
            first = first << 8 | bytes[i];
        }
        Due.tape(x, 8192, 0);
        x.patch(0, first);
        Due.be("load()", x.load(), 0);
        return x;
    }

    private static void pair(PadConsole x, int k, int w) {
        x.set(k, w >> 8);
        x.set(k + 1, w);
    }

    private static int pair(PadConsole x, int k) {
        return 256 * x.register(k) + x.register(k + 1);
    }

    /** Does the bytes, once, from 0xc000 on: its beats. */
    private static long beatsOf(PadConsole x, int... bytes) {
        Due.code(x, bytes);
        long before = x.look(0);
        x.step(1);
        return x.look(0) - before;
    }

    /** Registers 0 .. 26 can be told, 0 .. 25 set, each by itself. */
    private static void promise20And21EveryRegister() {
        for (int k = 0; k < 26; k++) {
            PadConsole x = new PadConsole(0);
            x.set(k, k == 18 ? 0 : 1);
            for (int i = 0; i < 27; i++) {
                int due = i == k ? k == 18 ? 0 : 1 : i == 18 ? 0xdff0 : 0;
                Due.be("register(" + i + ") behind set(" + k + ", ..)", x.register(i), due);
            }
        }
    }

    /** "becomes v (its lowest 16, 8, or 1 bits; MODE: its lowest two bits, 3 as 2)". */
    private static void promise21ItsLowestBits() {
        int[] values = {255, 256, 65535, 65536, 65537, -1, -2, -256, -65536, Integer.MAX_VALUE, Integer.MIN_VALUE, 3, 4, 7};
        for (int k = 0; k < 26; k++) {
            PadConsole x = new PadConsole(0);
            int bits = k < 16 || k == 21 || k == 22 ? 255 : k < 21 ? 65535 : k < 25 ? 1 : 3;
            for (int v : values) {
                x.set(k, v);
                int due = k == 25 && (v & 3) == 3 ? 2 : v & bits;
                Due.be("register(" + k + ") behind set(" + k + ", " + v + ")", x.register(k), due);
            }
        }
    }

    /** An instruction that lies over the end of all addresses. */
    private static void pcGoesRound() {
        PadConsole x = withRom(0x5a, 0xa5, 0x12, 0x34);
        Due.ram(x, 0xfffd, 0x00, 0x01, 0x3e);
        x.set(PC, 0xffff);
        x.step(1);
        Due.be("A behind ld a,n at 0xffff", x.register(A), 0x5a);
        Due.be("PC behind ld a,n at 0xffff", x.register(PC), 1);
        x.set(PC, 0xfffe);
        x.step(1);
        Due.be("BC behind ld bc,nn at 0xfffe", pair(x, B), 0x5a3e);
        Due.be("PC behind ld bc,nn at 0xfffe", x.register(PC), 1);
        x.poke(0xffff, 0x01);
        x.set(PC, 0xffff);
        x.step(1);
        Due.be("BC behind ld bc,nn at 0xffff", pair(x, B), 0xa55a);
        Due.be("PC behind ld bc,nn at 0xffff", x.register(PC), 2);
        x.poke(0xffff, 0x00);
        x.set(PC, 0xffff);
        x.step(1);
        Due.be("PC behind nop at 0xffff", x.register(PC), 0);
        // 0xcb at 0xffff: its op is that at 0, bit 3,d.
        x.poke(0xffff, 0xcb);
        x.set(PC, 0xffff);
        x.set(4, 8);
        x.step(1);
        Due.be("Z of bit 3,d at 0xffff", x.register(F) & 64, 0);
        Due.be("PC behind it", x.register(PC), 1);
        // 0xdd 0x36 0x01 at 0xfffd: n is the byte at 0.
        Due.ram(x, 0xfffd, 0xdd, 0x36, 0x01);
        x.set(IX, 0xd000);
        x.set(PC, 0xfffd);
        x.step(1);
        Due.be("peek behind ld (ix+01),n over the end", x.peek(0xd001), 0x5a);
        Due.be("PC behind it", x.register(PC), 1);
        // 0xdd 0xcb at 0xfffe: d is the byte at 0, the op that at 1: res 4,(ix+5a),l.
        Due.ram(x, 0xfffe, 0xdd, 0xcb);
        x.poke(0xd05a, 0xff);
        x.set(PC, 0xfffe);
        x.step(1);
        Due.be("peek behind res 4,(ix+5a) over the end", x.peek(0xd05a), 0xef);
        Due.be("L behind it", x.register(7), 0xef);
        Due.be("PC behind it", x.register(PC), 2);
        // A prefix at 0xffff looks at 0 for its op: it is not alone.
        x.poke(0xffff, 0xfd);
        x.set(PC, 0xffff);
        x.step(1);
        Due.be("PC behind 0xfd 0x5a", x.register(PC), 1);
    }

    /** "JUMP e: PC grows by e; WZ is PC then": e from -128 to 127, round both ends of the addresses. */
    private static void jumpsGoRound() {
        PadConsole x = withRom(0x18, 0x80, 0x18, 0x7f);
        x.step(1);
        Due.be("PC behind jr -128 at 0", x.register(PC), 0xff82);
        Due.be("WZ behind it", x.register(WZ), 0xff82);
        x.set(PC, 2);
        x.step(1);
        Due.be("PC behind jr 127 at 2", x.register(PC), 131);
        int[] es = {0, 1, 0x7f, 0x80, 0xfe, 0xff};
        int[] due = {0, 1, 0x7f, 0xff80, 0xfffe, 0xffff};
        for (int i = 0; i < es.length; i++) {
            Due.ram(x, 0xfffe, 0x18, es[i]);
            x.set(PC, 0xfffe);
            x.step(1);
            Due.be("PC behind jr " + es[i] + " at 0xfffe", x.register(PC), due[i]);
            Due.be("WZ behind it", x.register(WZ), due[i]);
        }
        // e is read also without: PC is behind it, WZ stays.
        x.set(WZ, 0x4321);
        x.set(F, 0);
        Due.be("beats of jr c that does not", beatsOf(x, 0x38, 0x10), 7);
        Due.be("PC behind it", x.register(PC), 0xc002);
        Due.be("WZ behind it", x.register(WZ), 0x4321);
    }

    /** "2 B less 1; if it is not 0: JUMP e: 13, else 8." */
    private static void djnzEndsWithB0() {
        int[] before = {1, 2, 0, 255, 128};
        for (int b : before) {
            PadConsole x = new PadConsole(0);
            x.set(B, b);
            x.set(F, 0xff);
            x.set(WZ, 0x1111);
            boolean goes = b != 1;
            Due.be("beats of djnz with B " + b, beatsOf(x, 0x10, 0x20), goes ? 13 : 8);
            Due.be("B", x.register(B), b - 1 & 255);
            Due.be("PC", x.register(PC), goes ? 0xc022 : 0xc002);
            Due.be("WZ", x.register(WZ), goes ? 0xc022 : 0x1111);
            Due.be("F", x.register(F), 0xff);
        }
    }

    /** "rp(p) is 1 more (q 0), 1 less", without a flag; also of IX and IY. */
    private static void pairsGoRound() {
        PadConsole x = new PadConsole(0);
        int[] words = {0, 0xff, 0x100, 0xffff};
        for (int w : words) {
            for (int p = 0; p < 4; p++) {
                for (int less = 0; less < 2; less++) {
                    int due = w + 1 - 2 * less & 0xffff;
                    x.set(F, 0xff);
                    if (p < 3) {
                        pair(x, B + 2 * p, w);
                    } else {
                        x.set(SP, w);
                    }
                    Due.be("beats", beatsOf(x, 0x03 + 16 * p + 8 * less), 6);
                    Due.be("pair " + p + " behind " + w, p < 3 ? pair(x, B + 2 * p) : x.register(SP), due);
                    Due.be("F", x.register(F), 0xff);
                }
            }
        }
        PadConsole y = new PadConsole(0);
        for (int w : words) {
            y.set(IX, w);
            y.set(IY, w);
            Due.be("beats of inc ix", beatsOf(y, 0xdd, 0x23), 10);
            Due.be("IX behind " + w, y.register(IX), w + 1 & 0xffff);
            beatsOf(y, 0xfd, 0x2b);
            Due.be("IY behind " + w, y.register(IY), w - 1 & 0xffff);
        }
    }

    /** "r(y) is 1 more .. P whether it is 0x80 then", "1 less .. P whether it is 0x7f then", of M and halves of IX too. */
    private static void bytesGoRound() {
        int[] values = {0xff, 0x7f, 0x0f, 0x00, 0x80, 0x10};
        int[] more = {0x50, 0x94, 0x10, 0x00, 0x80, 0x00};
        int[] less = {0xaa, 0x2a, 0x0a, 0xba, 0x3e, 0x1a};
        PadConsole x = new PadConsole(0);
        pair(x, 6, 0xd000);
        x.set(IX, 0xd000);
        for (int i = 0; i < values.length; i++) {
            int v = values[i];
            // by(0xff + 1) is Z alone, and so on: Y and X of what comes stand in the row.
            x.poke(0xd000, v);
            x.set(F, 0);
            Due.be("beats of inc (hl)", beatsOf(x, 0x34), 11);
            Due.be("inc (hl) of " + v, x.peek(0xd000), v + 1 & 255);
            Due.be("F of inc (hl) of " + v, x.register(F), more[i] & ~0x28 | v + 1 & 0x28);
            x.poke(0xd000, v);
            Due.be("beats of dec (ix+00)", beatsOf(x, 0xdd, 0x35, 0x00), 23);
            Due.be("dec (ix+00) of " + v, x.peek(0xd000), v - 1 & 255);
            Due.be("F of dec (ix+00) of " + v, x.register(F), less[i] & ~0x28 | v - 1 & 0x28);
            x.set(IY, 0x55 << 8 | v);
            beatsOf(x, 0xfd, 0x2c);
            Due.be("inc iyl of " + v, x.register(IY), 0x5500 | v + 1 & 255);
            x.set(IY, v << 8 | 0x55);
            beatsOf(x, 0xfd, 0x25);
            Due.be("dec iyh of " + v, x.register(IY), (v - 1 & 255) << 8 | 0x55);
        }
    }

    /** "A word in memory: the low byte first", the high one at 0 behind 0xffff. */
    private static void wordsInMemoryGoRound() {
        PadConsole x = withRom(0x77);
        x.poke(0xffff, 0x33);
        beatsOf(x, 0x2a, 0xff, 0xff);
        Due.be("HL behind ld hl,(ffff)", pair(x, 6), 0x7733);
        Due.be("WZ behind it", x.register(WZ), 0);
        beatsOf(x, 0xed, 0x4b, 0xff, 0xff);
        Due.be("BC behind ld bc,(ffff)", pair(x, B), 0x7733);
        beatsOf(x, 0xdd, 0x2a, 0xff, 0xff);
        Due.be("IX behind ld ix,(ffff)", x.register(IX), 0x7733);
        pair(x, 6, 0x4455);
        beatsOf(x, 0x22, 0xff, 0xff);
        Due.be("peek(0xffff) behind ld (ffff),hl", x.peek(0xffff), 0x55);
        Due.be("peek(0), which can't be written", x.peek(0), 0x77);
        Due.be("WZ behind it", x.register(WZ), 0);
        x.set(SP, 0x6688);
        beatsOf(x, 0xed, 0x73, 0xff, 0xff);
        Due.be("peek(0xffff) behind ld (ffff),sp", x.peek(0xffff), 0x88);
        // With paging 2 the high byte at 0 is a number of a bank.
        PadConsole y = new PadConsole(0);
        Due.tape(y, 65536, 0);
        y.patch(0x7fe6, 0xffff0001L);
        y.load();
        pair(y, 6, 0x0355);
        beatsOf(y, 0x22, 0xff, 0xff);
        Due.be("look(9) behind ld (ffff),hl", y.look(9), 3);
    }

    /** "PUSHED w: SP less 1, its high byte is written there, SP less 1, its low byte." And back. */
    private static void theStackGoesRound() {
        PadConsole x = withRom(0x77);
        pair(x, B, 0x1234);
        x.set(SP, 0);
        beatsOf(x, 0xc5);
        Due.be("SP behind push with SP 0", x.register(SP), 0xfffe);
        Due.be("peek(0xffff)", x.peek(0xffff), 0x12);
        Due.be("peek(0xfffe)", x.peek(0xfffe), 0x34);
        x.set(SP, 1);
        beatsOf(x, 0xc5);
        Due.be("SP behind push with SP 1", x.register(SP), 0xffff);
        Due.be("peek(0xffff)", x.peek(0xffff), 0x34);
        Due.be("peek(0)", x.peek(0), 0x77);
        beatsOf(x, 0xd1);
        Due.be("DE behind pop with SP 0xffff", pair(x, 4), 0x7734);
        Due.be("SP behind it", x.register(SP), 1);
        x.set(SP, 0xfffe);
        beatsOf(x, 0xe1);
        Due.be("HL behind pop with SP 0xfffe", pair(x, 6), 0x3434);
        Due.be("SP behind it", x.register(SP), 0);
        Due.be("beats of ret", beatsOf(x, 0xc9), 10);
        Due.be("PC behind ret with SP 0", x.register(PC), 0x0077);
        Due.be("SP behind it", x.register(SP), 2);
        x.set(SP, 0xffff);
        pair(x, 6, 0x5678);
        Due.be("beats of ex (sp),hl", beatsOf(x, 0xe3), 19);
        Due.be("HL behind ex (sp),hl with SP 0xffff", pair(x, 6), 0x7734);
        Due.be("WZ behind it", x.register(WZ), 0x7734);
        Due.be("peek(0xffff)", x.peek(0xffff), 0x78);
        x.set(SP, 0);
        beatsOf(x, 0xcd, 0x00, 0xd0);
        Due.be("peek(0xffff) behind call with SP 0", x.peek(0xffff), 0xc0);
        Due.be("peek(0xfffe)", x.peek(0xfffe), 3);
        x.set(SP, 1);
        beatsOf(x, 0xff);
        Due.be("peek(0xffff) behind rst with SP 1", x.peek(0xffff), 1);
        Due.be("SP behind it", x.register(SP), 0xffff);
    }

    /** WZ "is that + 1" as a word; "A : the low byte of" it where A is written. */
    private static void wzGoesRound() {
        PadConsole x = withRom(0x77);
        x.set(A, 0x9a);
        int[] words = {0xd0fe, 0xd0ff, 0xffff};
        for (int w : words) {
            pair(x, B, w);
            pair(x, 4, w);
            beatsOf(x, 0x02);
            Due.be("WZ of ld (bc),a with " + w, x.register(WZ), 0x9a00 | w + 1 & 255);
            beatsOf(x, 0x12);
            Due.be("WZ of ld (de),a with " + w, x.register(WZ), 0x9a00 | w + 1 & 255);
            beatsOf(x, 0x32, w & 255, w >> 8);
            Due.be("WZ of ld (nn),a with " + w, x.register(WZ), 0x9a00 | w + 1 & 255);
            beatsOf(x, 0x0a);
            Due.be("WZ of ld a,(bc) with " + w, x.register(WZ), w + 1 & 0xffff);
            beatsOf(x, 0x1a);
            Due.be("WZ of ld a,(de) with " + w, x.register(WZ), w + 1 & 0xffff);
            beatsOf(x, 0x3a, w & 255, w >> 8);
            Due.be("WZ of ld a,(nn) with " + w, x.register(WZ), w + 1 & 0xffff);
            Due.be("A", x.register(A), 0x9a);
            pair(x, 6, w);
            x.set(F, 0);
            beatsOf(x, 0x09);
            Due.be("WZ of add hl,bc with " + w, x.register(WZ), w + 1 & 0xffff);
            pair(x, 6, w);
            beatsOf(x, 0xed, 0x42);
            Due.be("WZ of sbc hl,bc with " + w, x.register(WZ), w + 1 & 0xffff);
        }
    }

    /** "WZ is A : n + 1 (a byte by itself)" of out; "WZ is A:n, + 1 as a word" of in; "WZ = BC + 1" of both with C. */
    private static void wzOfPorts() {
        PadConsole x = new PadConsole(0);
        x.set(A, 0x12);
        beatsOf(x, 0xd3, 0xfe);
        Due.be("WZ of out (fe),a", x.register(WZ), 0x12ff);
        beatsOf(x, 0xd3, 0xff);
        Due.be("WZ of out (ff),a", x.register(WZ), 0x1200);
        beatsOf(x, 0xdb, 0xff);
        Due.be("WZ of in a,(ff)", x.register(WZ), 0x1300);
        Due.be("A, nothing pressed", x.register(A), 0xff);
        beatsOf(x, 0xdb, 0xff);
        Due.be("WZ of in a,(ff) with A 255", x.register(WZ), 0);
        pair(x, B, 0xffff);
        beatsOf(x, 0xed, 0x50);
        Due.be("WZ of in d,(c) with BC 0xffff", x.register(WZ), 0);
        pair(x, B, 0x12ff);
        beatsOf(x, 0xed, 0x51);
        Due.be("WZ of out (c),d with BC 0x12ff", x.register(WZ), 0x1300);
        x.press(0, 63);
        x.press(1, 63);
        pair(x, B, 0x00dc);
        x.set(F, 0xff);
        beatsOf(x, 0xed, 0x70);
        Due.be("F of in (c) that gives 0", x.register(F), 0x45);
        Due.be("B, which in (c) leaves alone", pair(x, B), 0x00dc);
        x.set(0, 7);
        pair(x, B, 0x003f);
        beatsOf(x, 0xed, 0x71);
        Due.be("look(14) behind out (c),0", x.look(14), 0);
    }

    /** "M is the byte at WZ = J + d": d from -128 to 127, round both ends. */
    private static void placesGoRound() {
        PadConsole x = withRom(0x41, 0x42, 0x43);
        Due.ram(x, 0xff80, 0x51);
        Due.ram(x, 0xfffe, 0x53, 0x55);
        int[] from = {0xffff, 0xffff, 0, 0, 0, 1, 0xff81, 0xfffe};
        int[] d = {1, 2, 0xff, 0xfe, 0x80, 0x80, 0x7f, 0x00};
        int[] at = {0, 1, 0xffff, 0xfffe, 0xff80, 0xff81, 0, 0xfffe};
        int[] due = {0x41, 0x42, 0x55, 0x53, 0x51, 0, 0x41, 0x53};
        for (int i = 0; i < from.length; i++) {
            x.set(IX, from[i]);
            Due.be("beats", beatsOf(x, 0xdd, 0x7e, d[i]), 19);
            Due.be("A behind ld a,(ix+d), IX " + from[i] + ", d " + d[i], x.register(A), due[i]);
            Due.be("WZ", x.register(WZ), at[i]);
            x.set(IY, from[i]);
            Due.be("beats", beatsOf(x, 0xfd, 0xcb, d[i], 0xc0), 23);
            Due.be("B behind set 0,(iy+d),b", x.register(B), due[i] | 1);
            Due.be("WZ", x.register(WZ), at[i]);
        }
    }

    /** ldi and ldd: "HL and DE grow by s, BC is 1 less", "P whether BC is not 0". */
    private static void copiesGoRound() {
        int[] counts = {0, 1, 2, 0x100, 0xffff};
        for (int n : counts) {
            PadConsole x = withRom(0x77);
            x.poke(0xffff, 0x21);
            pair(x, 6, 0xffff);
            pair(x, 4, 0xdfff);
            pair(x, B, n);
            x.set(F, 0xff);
            x.set(A, 0);
            Due.be("beats of ldi", beatsOf(x, 0xed, 0xa0), 16);
            Due.be("HL behind ldi", pair(x, 6), 0);
            Due.be("DE behind ldi", pair(x, 4), 0xe000);
            Due.be("BC behind ldi with " + n, pair(x, B), n - 1 & 0xffff);
            // k is 0x21: neither bit 1 nor bit 3.
            Due.be("F behind ldi with " + n, x.register(F), 0xc1 | (n != 1 ? 4 : 0));
            pair(x, 6, 0);
            pair(x, 4, 0);
            pair(x, B, n);
            Due.be("beats of ldd", beatsOf(x, 0xed, 0xa8), 16);
            Due.be("HL behind ldd", pair(x, 6), 0xffff);
            Due.be("DE behind ldd", pair(x, 4), 0xffff);
            Due.be("P behind ldd with " + n, x.register(F) & 4, n != 1 ? 4 : 0);
        }
    }

    /** cpi and cpd: "WZ grows by s", "k = v - H: Y bit 1 of k, X bit 3". */
    private static void comparesGoRound() {
        PadConsole x = withRom(0x77);
        pair(x, 6, 0xffff);
        pair(x, B, 0);
        x.set(WZ, 0xffff);
        x.set(A, 0);
        x.poke(0xffff, 0);
        x.set(F, 1);
        Due.be("beats of cpi", beatsOf(x, 0xed, 0xa1), 16);
        Due.be("HL behind cpi", pair(x, 6), 0);
        Due.be("BC behind cpi", pair(x, B), 0xffff);
        Due.be("WZ behind cpi", x.register(WZ), 0);
        Due.be("F behind cpi of what is alike", x.register(F), 0x47);
        x.set(WZ, 0);
        pair(x, B, 1);
        x.set(A, 0x70);
        Due.be("beats of cpd", beatsOf(x, 0xed, 0xa9), 16);
        Due.be("HL behind cpd", pair(x, 6), 0xffff);
        Due.be("WZ behind cpd", x.register(WZ), 0xffff);
        // v is 0x70 - 0x77 = 0xf9 with a borrow: k is 0xf8, with bit 3 and without bit 1.
        Due.be("F behind cpd", x.register(F), 0x80 | 0x10 | 0x08 | 2 | 1);
        // v is 0 - 1 = 0xff with a borrow: k 0xfe has both bits.
        x.poke(0xd000, 1);
        pair(x, 6, 0xd000);
        pair(x, B, 5);
        x.set(A, 0);
        x.set(F, 0);
        beatsOf(x, 0xed, 0xa1);
        Due.be("F behind cpi of 0 and 1", x.register(F), 0x80 | 0x20 | 0x10 | 8 | 4 | 2);
    }

    /** ini, ind: "WZ = BC + s" ahead of B's change; outi, outd behind it; B 0 goes to 255. */
    private static void portBlocksGoRound() {
        PadConsole x = new PadConsole(0);
        pair(x, 6, 0xffff);
        pair(x, B, 0xffff);
        Due.be("beats of ini", beatsOf(x, 0xed, 0xa2), 16);
        Due.be("WZ behind ini with BC 0xffff", x.register(WZ), 0);
        Due.be("BC behind ini", pair(x, B), 0xfeff);
        Due.be("HL behind ini", pair(x, 6), 0);
        Due.be("peek(0xffff), what came", x.peek(0xffff), 255);
        // m is 255, C + 1 as a byte 0: k is 255; (k and 7) exclusive or B is 0xf9.
        Due.be("F behind ini", x.register(F), 0x80 | 0x28 | 2 | 4);
        pair(x, 6, 0);
        pair(x, B, 0);
        x.set(3, 0);
        Due.be("beats of ind", beatsOf(x, 0xed, 0xaa), 16);
        Due.be("WZ behind ind with BC 0", x.register(WZ), 0xffff);
        Due.be("BC behind ind", pair(x, B), 0xff00);
        Due.be("HL behind ind", pair(x, 6), 0xffff);
        // m is 255, C - 1 as a byte 255: k is 510, above 255; (k and 7) exclusive or B is 0xf9.
        Due.be("F behind ind", x.register(F), 0x80 | 0x28 | 0x10 | 2 | 1 | 4);
        pair(x, 6, 0xffff);
        pair(x, B, 0x00ff);
        x.poke(0xffff, 0);
        Due.be("beats of outi", beatsOf(x, 0xed, 0xa3), 16);
        Due.be("WZ behind outi with BC 0x00ff", x.register(WZ), 0);
        Due.be("BC behind outi", pair(x, B), 0xffff);
        Due.be("HL behind outi", pair(x, 6), 0);
        pair(x, 6, 0xd000);
        pair(x, B, 0x0100);
        x.poke(0xd000, 0);
        Due.be("beats of outd", beatsOf(x, 0xed, 0xab), 16);
        Due.be("WZ behind outd with BC 0x0100", x.register(WZ), 0xffff);
        Due.be("BC behind outd", pair(x, B), 0);
        Due.be("HL behind outd", pair(x, 6), 0xcfff);
        // m is 0, L 255: k is 255; (k and 7) exclusive or 0 is 7.
        Due.be("F behind outd", x.register(F), 0x40);
        pair(x, 6, 0xd000);
        x.poke(0xd000, 1);
        x.set(B, 2);
        beatsOf(x, 0xed, 0xab);
        Due.be("F behind outd, k 256", x.register(F), 0x10 | 1);
    }

    /** "PC is 2 less, and with z 0, 1 WZ is PC + 1 then": round the first address. */
    private static void blocksBeginAgainRound() {
        PadConsole x = withRom(0xb0);
        pair(x, 6, 0xd000);
        pair(x, 4, 0xd100);
        pair(x, B, 3);
        x.poke(0xffff, 0xed);
        x.set(PC, 0xffff);
        x.step(1);
        Due.be("PC behind ldir at 0xffff", x.register(PC), 0xffff);
        Due.be("WZ behind ldir at 0xffff", x.register(WZ), 0);
        x.step(2);
        Due.be("PC behind all of ldir at 0xffff", x.register(PC), 1);
        Due.ram(x, 0xfffe, 0xed, 0xb1);
        pair(x, B, 2);
        x.set(A, 9);
        x.set(PC, 0xfffe);
        x.step(1);
        Due.be("PC behind cpir at 0xfffe", x.register(PC), 0xfffe);
        Due.be("WZ behind cpir at 0xfffe", x.register(WZ), 0xffff);
        x.step(1);
        Due.be("PC behind all of cpir at 0xfffe", x.register(PC), 0);
    }

    /** "if P is 1 with z 0, if P is 1 and Z 0 with z 1, if B is not 0 with z 2, 3 .. 21", else 16. */
    private static void repeatsEnd() {
        for (int back = 0; back < 2; back++) {
            int op = 0xb0 + 8 * back;
            PadConsole x = new PadConsole(0);
            pair(x, 6, 0xd010);
            pair(x, 4, 0xd110);
            pair(x, B, 2);
            Due.be("beats of ldir with 2", beatsOf(x, 0xed, op), 21);
            Due.be("beats of ldir with 1", beatsOf(x, 0xed, op), 16);
            Due.be("beats of ldir with 0", beatsOf(x, 0xed, op), 21);
            x.set(A, 1);
            pair(x, 6, 0xd010);
            pair(x, B, 2);
            Due.be("beats of cpir with 2", beatsOf(x, 0xed, op + 1), 21);
            Due.be("beats of cpir with 1", beatsOf(x, 0xed, op + 1), 16);
            x.set(A, 0);
            pair(x, B, 9);
            Due.be("beats of cpir of what is alike", beatsOf(x, 0xed, op + 1), 16);
            Due.be("Z and P of cpir of what is alike", x.register(F) & 0x44, 0x44);
            pair(x, B, 1);
            Due.be("beats of cpir of what is alike with 1", beatsOf(x, 0xed, op + 1), 16);
            Due.be("Z and P of that", x.register(F) & 0x44, 0x40);
            for (int z = 2; z < 4; z++) {
                pair(x, B, 0x02dc);
                Due.be("beats of op " + z + " with B 2", beatsOf(x, 0xed, op + z), 21);
                int wz = z == 2 ? 0x02dc : 0x01dc;
                Due.be("WZ of op " + z, x.register(WZ), back == 1 ? wz - 1 : wz + 1);
                Due.be("beats of op " + z + " with B 1", beatsOf(x, 0xed, op + z), 16);
                Due.be("B", x.register(B), 0);
                Due.be("beats of op " + z + " with B 0", beatsOf(x, 0xed, op + z), 21);
                Due.be("B", x.register(B), 255);
            }
        }
    }

    /** DAA of each A with each H, N, C: "above 9", "above 0x99", "below 6". */
    private static void adjustsEveryByte() {
        for (int flags = 0; flags < 8; flags++) {
            int f = (flags & 1) | (flags & 2) | (flags & 4) << 2;
            PadConsole x = null;
            for (int a = 0; a < 256; a++) {
                if (a % 64 == 0) {
                    x = new PadConsole(0);
                    Due.code(x, 0x27);
                }
                x.set(A, a);
                x.set(F, f);
                x.set(PC, 0xc000);
                x.step(1);
                boolean minus = (f & 2) != 0;
                int low = a & 15;
                int d = low > 9 || (f & 16) != 0 ? 6 : 0;
                int carry = f & 1;
                if (a > 0x99 || carry == 1) {
                    d += 0x60;
                    carry = 1;
                }
                boolean half = minus ? (f & 16) != 0 && low < 6 : low > 9;
                int v = (minus ? a - d : a + d) & 255;
                int due = v & 0xa8 | (v == 0 ? 64 : 0) | (half ? 16 : 0) | (Integer.bitCount(v) % 2 == 0 ? 4 : 0) | f & 2 | carry;
                Due.be("A of daa of " + a + " with F " + f, x.register(A), v);
                Due.be("F of daa of " + a + " with F " + f, x.register(F), due);
            }
        }
    }

    /** "as DO 2 with A as b and 0 as a". */
    private static void negates() {
        int[] values = {0, 1, 0x0f, 0x10, 0x7f, 0x80, 0x81, 0xff};
        int[] due = {0x42, 0xbb, 0xb3, 0xa3, 0x93, 0x87, 0x3b, 0x13};
        for (int y = 0; y < 8; y++) {
            PadConsole x = new PadConsole(0);
            for (int i = 0; i < values.length; i++) {
                x.set(A, values[i]);
                x.set(F, 0xff);
                Due.be("beats of neg", beatsOf(x, 0xed, 0x44 + 8 * y), 8);
                int v = -values[i] & 255;
                Due.be("neg of " + values[i], x.register(A), v);
                Due.be("F of neg of " + values[i], x.register(F), due[i] & ~0x28 | v & 0x28);
            }
        }
    }

    /** TURN 0 .. 7 of bytes whose end bits are 0 and 1, with C 0 and 1; A turned by itself keeps S, Z, P. */
    private static void turnsEveryEdge() {
        int[] values = {0, 1, 0x7f, 0x80, 0x81, 0xfe, 0xff};
        for (int y = 0; y < 8; y++) {
            PadConsole x = new PadConsole(0);
            for (int v : values) {
                for (int c = 0; c < 2; c++) {
                    boolean left = y % 2 == 0;
                    int out = left ? v / 128 : v % 2;
                    int in = y < 2 ? out : y < 4 ? c : y == 5 ? v / 128 : y == 6 ? 1 : 0;
                    int w = left ? v * 2 % 256 + in : v / 2 + 128 * in;
                    int f = w & 0xa8 | (w == 0 ? 64 : 0) | (Integer.bitCount(w) % 2 == 0 ? 4 : 0) | out;
                    x.set(4, v);
                    x.set(F, 0xfe | c);
                    Due.be("beats of a turn", beatsOf(x, 0xcb, 8 * y + 2), 8);
                    Due.be("turn " + y + " of " + v + ", " + c, x.register(4), w);
                    Due.be("F of turn " + y + " of " + v + ", " + c, x.register(F), f);
                    if (y < 4) {
                        x.set(A, v);
                        x.set(F, 0xfe | c);
                        Due.be("beats of A's turn", beatsOf(x, 8 * y + 7), 4);
                        Due.be("A's turn " + y + " of " + v, x.register(A), w);
                        Due.be("F of A's turn " + y + " of " + v, x.register(F), 0xc4 | w & 0x28 | out);
                    }
                }
            }
        }
    }

    /** "with the bit y of r(z) alone, v: S and Z by v, P as Z .. Y and X by r(z), for M by the high byte of WZ". */
    private static void asksBits() {
        for (int y = 0; y < 8; y++) {
            PadConsole x = new PadConsole(0);
            pair(x, 6, 0xd000);
            for (int one = 0; one < 2; one++) {
                int v = one == 1 ? 1 << y : 255 - (1 << y);
                int f = (one == 0 ? 0x44 : y == 7 ? 0x80 : 0) | 0x10 | 1;
                x.set(2, v);
                x.set(F, 0xff);
                beatsOf(x, 0xcb, 0x40 + 8 * y);
                Due.be("F of bit " + y + " of " + v, x.register(F), f | v & 0x28);
                x.poke(0xd000, v);
                x.set(WZ, 0xd7ff);
                Due.be("beats of bit y,(hl)", beatsOf(x, 0xcb, 0x46 + 8 * y), 12);
                Due.be("F of bit " + y + ",(hl) of " + v, x.register(F), f);
                x.set(WZ, 0x2800);
                beatsOf(x, 0xcb, 0x46 + 8 * y);
                Due.be("F of bit " + y + ",(hl) with WZ 0x2800", x.register(F), f | 0x28);
                beatsOf(x, 0xcb, 0x86 + 8 * y);
                Due.be("res " + y + ",(hl) of " + v, x.peek(0xd000), v & ~(1 << y));
                beatsOf(x, 0xcb, 0xc6 + 8 * y);
                Due.be("set " + y + ",(hl) of " + v, x.peek(0xd000), v | 1 << y);
            }
        }
    }

    /** rrd and rld: "the low four bits of A", "16 * m (a byte)". */
    private static void digitsTurn() {
        PadConsole x = new PadConsole(0);
        pair(x, 6, 0xffff);
        int[] a = {0xf0, 0x0f, 0x9a, 0x00};
        int[] m = {0x0f, 0xf0, 0xbc, 0x00};
        for (int i = 0; i < a.length; i++) {
            x.poke(0xffff, m[i]);
            x.set(A, a[i]);
            x.set(F, 0xff);
            Due.be("beats of rrd", beatsOf(x, 0xed, 0x67), 18);
            Due.be("peek behind rrd", x.peek(0xffff), a[i] % 16 * 16 + m[i] / 16);
            int v = a[i] / 16 * 16 + m[i] % 16;
            Due.be("A behind rrd", x.register(A), v);
            Due.be("F behind rrd", x.register(F), v & 0xa8 | (v == 0 ? 64 : 0) | (Integer.bitCount(v) % 2 == 0 ? 4 : 0) | 1);
            Due.be("WZ behind rrd with HL 0xffff", x.register(WZ), 0);
            x.poke(0xffff, m[i]);
            x.set(A, a[i]);
            beatsOf(x, 0xed, 0x6f);
            Due.be("peek behind rld", x.peek(0xffff), m[i] % 16 * 16 + a[i] % 16);
            Due.be("A behind rld", x.register(A), a[i] / 16 * 16 + m[i] / 16);
        }
    }

    /** "cc(0 .. 7): Z 0, Z 1, C 0, C 1, P 0, P 1, S 0, S 1." */
    private static void conditions() {
        int[] flags = {64, 1, 4, 128};
        for (int y = 0; y < 8; y++) {
            for (int on = 0; on < 2; on++) {
                PadConsole x = new PadConsole(0);
                int flag = flags[y / 2];
                int f = on == 1 ? flag : 255 - flag;
                boolean goes = on == y % 2;
                x.set(F, f);
                Due.be("beats of jp cc " + y + " with F " + f, beatsOf(x, 0xc2 + 8 * y, 0x00, 0xd0), 10);
                Due.be("PC", x.register(PC), goes ? 0xd000 : 0xc003);
                Due.be("WZ", x.register(WZ), 0xd000);
                Due.be("beats of call cc " + y, beatsOf(x, 0xc4 + 8 * y, 0x34, 0xd0), goes ? 17 : 10);
                Due.be("PC", x.register(PC), goes ? 0xd034 : 0xc003);
                Due.be("SP", x.register(SP), goes ? 0xdfee : 0xdff0);
                Due.be("WZ", x.register(WZ), 0xd034);
                x.set(SP, 0xdf00);
                x.set(WZ, 0x9999);
                Due.be("beats of ret cc " + y, beatsOf(x, 0xc0 + 8 * y), goes ? 11 : 5);
                Due.be("PC", x.register(PC), goes ? 0 : 0xc001);
                Due.be("WZ", x.register(WZ), goes ? 0 : 0x9999);
                if (y < 4) {
                    Due.be("beats of jr cc " + y, beatsOf(x, 0x20 + 8 * y, 0x05), goes ? 12 : 7);
                    Due.be("PC", x.register(PC), goes ? 0xc007 : 0xc002);
                }
                Due.be("F", x.register(F), f);
            }
        }
    }

    /** "MODE is 0, 0, 1, 2 by y modulo 4". */
    private static void modes() {
        int[] due = {0, 0, 1, 2, 0, 0, 1, 2};
        PadConsole x = new PadConsole(0);
        for (int y = 0; y < 8; y++) {
            x.set(25, 1 - due[y] / 2);
            Due.be("beats of im", beatsOf(x, 0xed, 0x46 + 8 * y), 8);
            Due.be("register(25) behind im of y " + y, x.register(25), due[y]);
        }
    }

    /** "R GROWS: its lowest seven bits do, by 1, modulo 128." */
    private static void rGrowsRound() {
        int[] values = {0x00, 0x7e, 0x7f, 0x80, 0xfe, 0xff};
        for (int v : values) {
            PadConsole x = new PadConsole(0);
            x.set(22, v);
            beatsOf(x, 0x00);
            Due.be("R behind nop, of " + v, x.register(22), v & 128 | v + 1 & 127);
            x.set(22, v);
            beatsOf(x, 0xcb, 0x00);
            Due.be("R behind two ops, of " + v, x.register(22), v & 128 | v + 2 & 127);
            x.set(22, v);
            beatsOf(x, 0xdd, 0xcb, 0x00, 0x46);
            Due.be("R behind a prefix and 0xcb, of " + v, x.register(22), v & 128 | v + 2 & 127);
            x.set(22, v);
            beatsOf(x, 0xdd, 0xdd);
            Due.be("R behind a prefix alone, of " + v, x.register(22), v & 128 | v + 1 & 127);
            x.set(A, v);
            beatsOf(x, 0xed, 0x4f);
            Due.be("R behind ld r,a, of " + v, x.register(22), v);
            x.set(22, v);
            x.set(24, v & 1);
            beatsOf(x, 0xed, 0x5f);
            int r = v & 128 | v + 2 & 127;
            Due.be("A behind ld a,r, of " + v, x.register(A), r);
            Due.be("P behind ld a,r is IFF2", x.register(F) & 4, (v & 1) * 4);
            x.set(22, v);
            x.pause();
            x.step(1);
            Due.be("R behind a pause, of " + v, x.register(22), v & 128 | v + 1 & 127);
        }
    }

    /** A console whose video chip asks. */
    private static void ask(PadConsole x) {
        Due.videoRegister(x, 0, 0x10);
        Due.idle(x);
        x.step(20);
        Due.be("chip(17)", x.chip(17), 1);
    }

    /** "MODE 2: CALL the word at I:255": of I 255 its high byte is that at 0. */
    private static void theVectorGoesRound() {
        PadConsole x = withRom(0x77);
        ask(x);
        x.poke(0xffff, 0x42);
        x.set(21, 255);
        x.set(23, 1);
        x.set(25, 2);
        long beats = x.look(0);
        x.step(1);
        Due.be("PC by the word at 0xffff", x.register(PC), 0x7742);
        Due.be("WZ", x.register(WZ), 0x7742);
        Due.be("beats", x.look(0) - beats, 19);
    }

    /** "(and the step before was no EI ..)": of several EI the last one counts. */
    private static void eiHoldsForOneStep() {
        PadConsole x = new PadConsole(0);
        ask(x);
        Due.code(x, 0xfb, 0xfb, 0xfb, 0x00, 0x00);
        for (int i = 1; i <= 4; i++) {
            x.step(1);
            Due.be("PC " + i + " steps on", x.register(PC), 0xc000 + i);
        }
        x.step(1);
        Due.be("PC two steps behind the last EI", x.register(PC), 0x38);
        Due.be("peek of what was pushed", x.peek(0xdfee), 4);
        // EI then DI: never heard.
        Due.code(x, 0xfb, 0xf3, 0x00, 0x00);
        x.step(4);
        Due.be("PC behind EI and DI", x.register(PC), 0xc004);
        // A pause holds on likewise, and comes ahead of what asks.
        Due.code(x, 0xfb, 0x00, 0x00);
        x.pause();
        x.step(1);
        Due.be("PC, the pause ahead of EI", x.register(PC), 0x66);
        Due.code(x, 0xfb, 0xfb, 0x00);
        x.step(1);
        x.pause();
        x.step(1);
        Due.be("PC a step behind EI", x.register(PC), 0xc002);
        Due.be("look(12) a step behind EI", x.look(12), 1);
        x.step(1);
        Due.be("PC two steps behind EI, the second one EI", x.register(PC), 0xc003);
        x.step(1);
        Due.be("PC behind that", x.register(PC), 0x66);
    }

    /** "(.. and no PREFIX ALONE)": nothing comes between prefixes and their instruction. */
    private static void prefixAloneHoldsForOneStep() {
        int[][] codes = {{0xdd, 0xdd, 0xfd, 0x23}, {0xfd, 0xdd, 0xdd, 0x23}, {0xdd, 0xfd, 0xed, 0x44}};
        int[] due = {0xc004, 0xc004, 0xc004};
        for (int i = 0; i < codes.length; i++) {
            PadConsole x = new PadConsole(0);
            ask(x);
            Due.code(x, codes[i]);
            long beats = x.look(0);
            x.step(1);
            Due.be("beats of a prefix alone", x.look(0) - beats, 4);
            x.set(23, 1);
            x.step(2);
            Due.be("PC behind prefixes and what they are for", x.register(PC), due[i]);
            x.step(1);
            Due.be("PC a step on", x.register(PC), 0x38);
        }
    }

    /** "if IFF1 is 1 and the video chip ASKS". */
    private static void interruptsNeedIff1AndAsking() {
        PadConsole x = new PadConsole(0);
        ask(x);
        x.set(24, 1);
        x.step(3);
        Due.be("PC with IFF1 0 and IFF2 1", x.register(PC), 0xc000);
        x.set(23, 1);
        Due.videoRegister(x, 0, 0);
        x.step(3);
        Due.be("PC with nothing that asks", x.register(PC), 0xc000);
        Due.videoRegister(x, 0, 0x10);
        x.step(1);
        Due.be("PC with both", x.register(PC), 0x38);
        Due.be("chip(16), which the processor leaves alone", x.chip(16), 1);
        // retn: "IFF1 is IFF2".
        x.set(24, 1);
        Due.be("beats of retn", beatsOf(x, 0xed, 0x45), 14);
        Due.be("IFF1 behind retn", x.register(23), 1);
        Due.be("PC behind retn", x.register(PC), 0xc000);
        x.set(23, 1);
        x.set(24, 0);
        x.in(0xbf);
        beatsOf(x, 0xed, 0x4d);
        Due.be("IFF1 behind reti with IFF2 0", x.register(23), 0);
    }

    /** "if it halts: R grows, 4 beats"; a pause and the video chip end it. */
    private static void haltsUntilCalled() {
        PadConsole x = new PadConsole(0);
        Due.code(x, 0x76, 0x00);
        x.set(22, 0x7e);
        x.step(1);
        Due.be("R behind halt", x.register(22), 0x7f);
        x.step(1);
        Due.be("R a step on", x.register(22), 0);
        Due.be("look(0)", x.look(0), 8);
        x.set(PC, 0xd000);
        x.step(1);
        Due.be("PC, which set() changes, but it halts", x.register(PC), 0xd000);
        x.pause();
        x.step(1);
        Due.be("register(26) behind a pause", x.register(26), 0);
        Due.be("peek of what was pushed", x.peek(0xdfef), 0xd0);
        PadConsole y = new PadConsole(0);
        ask(y);
        Due.code(y, 0xdd, 0x76);
        long beats = y.look(0);
        y.step(1);
        Due.be("beats of halt with a prefix", y.look(0) - beats, 8);
        Due.be("register(26)", y.register(26), 1);
        y.set(23, 1);
        y.step(1);
        Due.be("register(26) behind what asked", y.register(26), 0);
        Due.be("PC behind what asked", y.register(PC), 0x38);
        Due.be("peek of what was pushed", y.peek(0xdfee), 2);
    }

    /** MORE: "x 2, y 4 .. 7, z 0 .. 3", and beside them "All others: nothing: 8." */
    private static void othersOfMoreDoNothing() {
        for (int op = 0; op < 256; op++) {
            boolean block = op >= 0xa0 && op < 0xc0 && op % 8 < 4;
            boolean first = op >= 0x40 && op < 0x80 && op != 0x77 && op != 0x7f;
            if (block || first) {
                continue;
            }
            PadConsole x = new PadConsole(0);
            for (int k = 0; k < 26; k++) {
                x.set(k, k == PC ? 0xc000 : 0xd0d1);
            }
            Due.ram(x, 0xc000, 0xed, op);
            x.step(1);
            Due.be("beats of 0xed " + op, x.look(0), 8);
            for (int k = 0; k < 26; k++) {
                int due = k < 16 || k == 21 ? 0xd1 : k == PC ? 0xc002 : k == 22 ? 0xd3 : k < 22 ? 0xd0d1 : 1;
                Due.be("register(" + k + ") behind 0xed " + op, x.register(k), due);
            }
            Due.be("peek(0xd0d1) behind 0xed " + op, x.peek(0xd0d1), 0);
        }
    }

    /** "behind the op, ahead of n, comes d .. H and L are themselves: 12 more, with n 9 more"; without M "4 more". */
    private static void hAndLBesideAPlace() {
        PadConsole x = new PadConsole(0);
        x.set(IX, 0xd010);
        pair(x, 6, 0x1234);
        Due.be("beats of ld (ix+02),h", beatsOf(x, 0xdd, 0x74, 0x02), 19);
        Due.be("peek(0xd012), H itself", x.peek(0xd012), 0x12);
        Due.be("beats of ld l,(ix+02)", beatsOf(x, 0xdd, 0x6e, 0x02), 19);
        Due.be("L itself", pair(x, 6), 0x1212);
        Due.be("IX, which stays", x.register(IX), 0xd010);
        Due.be("beats of ld (ix+03),99", beatsOf(x, 0xdd, 0x36, 0x03, 0x99), 19);
        Due.be("peek(0xd013)", x.peek(0xd013), 0x99);
        Due.be("PC behind d and n", x.register(PC), 0xc004);
        Due.be("beats of inc ixl", beatsOf(x, 0xdd, 0x2c), 8);
        Due.be("IX", x.register(IX), 0xd011);
        Due.be("beats of ld ixh,c1", beatsOf(x, 0xdd, 0x26, 0xc1), 11);
        Due.be("IX", x.register(IX), 0xc111);
        Due.be("H", pair(x, 6), 0x1212);
        Due.be("beats of add (ix+00)", beatsOf(x, 0xdd, 0x86, 0x00), 19);
        Due.be("beats of nop with a prefix", beatsOf(x, 0xdd, 0x00), 8);
        Due.be("PC behind it", x.register(PC), 0xc002);
        Due.be("beats of jp (ix)", beatsOf(x, 0xdd, 0xe9), 8);
        Due.be("PC behind it", x.register(PC), 0xc111);
        x.set(5, 7);
        Due.be("beats of set 0,(ix+00),h", beatsOf(x, 0xdd, 0xcb, 0x00, 0xc4), 23);
        Due.be("H, not IX's", x.register(6), 1);
        Due.be("IX", x.register(IX), 0xc111);
        Due.be("beats of bit 0,(ix+00)", beatsOf(x, 0xdd, 0xcb, 0x00, 0x44), 20);
        Due.be("H, which bit leaves alone", x.register(6), 1);
    }

    /** "A flag that is not told stays.": cpl, scf, ccf, of each F. */
    private static void flagsThatStay() {
        for (int f = 0; f < 256; f += 15) {
            PadConsole x = new PadConsole(0);
            x.set(A, 0x28);
            x.set(F, f);
            beatsOf(x, 0x37);
            Due.be("F of scf with " + f, x.register(F), f & 0xc4 | 0x28 | 1);
            x.set(F, f);
            beatsOf(x, 0x3f);
            Due.be("F of ccf with " + f, x.register(F), f & 0xc4 | 0x28 | ((f & 1) == 1 ? 0x10 : 1));
            x.set(F, f);
            beatsOf(x, 0x2f);
            Due.be("F of cpl with " + f, x.register(F), f & 0xc5 | 0x12);
            Due.be("A of cpl", x.register(A), 0xd7);
            x.set(F, f);
            beatsOf(x, 0x3e, 0x00);
            Due.be("F of ld a,n", x.register(F), f);
            beatsOf(x, 0xeb);
            Due.be("F of ex de,hl", x.register(F), f);
        }
    }
}
