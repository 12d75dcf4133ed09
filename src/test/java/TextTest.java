/** Promises 15 and 16: tell and text; each instruction by itself is in runs/texts.txt. */
public final class TextTest {
    private TextTest() {
    }

    public static void main(String[] args) {
        texts();
        signs();
        fromCartridge();
        Due.end("TextTest");
    }

    private static String textOf(PadConsole x) {
        StringBuilder text = new StringBuilder();
        for (int k = 0; k < x.look(18); k++) {
            text.append((char) (x.text(k) & 255));
        }
        return text.toString();
    }

    private static void text(PadConsole x, int bytes, String due, int... code) {
        Due.ram(x, 0xc000, code);
        Due.be("tell of " + due, x.tell(0xc000), bytes);
        Due.be("text", textOf(x), due);
    }

    private static void texts() {
        PadConsole x = new PadConsole(0);
        text(x, 1, "nop", 0x00);
        text(x, 2, "djnz c002", 0x10, 0x00);
        text(x, 2, "jr bf82", 0x18, 0x80);
        text(x, 2, "jr nc,c081", 0x30, 0x7f);
        text(x, 3, "ld (abcd),hl", 0x22, 0xcd, 0xab);
        text(x, 2, "sub 0f", 0xd6, 0x0f);
        text(x, 1, "rst 38", 0xff);
        text(x, 2, "out (fe),a", 0xd3, 0xfe);
        PadConsole y = new PadConsole(0);
        text(y, 2, "set 7,(hl)", 0xcb, 0xfe);
        text(y, 2, "in (c)", 0xed, 0x70);
        text(y, 2, "nop", 0xed, 0x00);
        text(y, 4, "ld sp,(1234)", 0xed, 0x7b, 0x34, 0x12);
        text(y, 1, "nop", 0xdd, 0xfd);
        text(y, 2, "nop", 0xfd, 0x00);
        text(y, 4, "ld (ix+00),ff", 0xdd, 0x36, 0x00, 0xff);
        text(y, 3, "ld l,(iy-80)", 0xfd, 0x6e, 0x80);
        PadConsole z = new PadConsole(0);
        text(z, 2, "ld ixh,ixl", 0xdd, 0x65);
        text(z, 4, "res 0,(iy-01),l", 0xfd, 0xcb, 0xff, 0x85);
        text(z, 4, "bit 5,(ix+7f)", 0xdd, 0xcb, 0x7f, 0x6a);
        text(z, 2, "jp (ix)", 0xdd, 0xe9);
        text(z, 2, "push iy", 0xfd, 0xe5);
        text(z, 3, "jr c002", 0xdd, 0x18, 0xff);
        text(z, 1, "ld h,(hl)", 0x66);
        text(z, 3, "inc (ix+05)", 0xdd, 0x34, 0x05);
        text(z, 2, "inc iyl", 0xfd, 0x2c);
        text(z, 2, "rl l", 0xcb, 0x15);
    }

    private static void signs() {
        PadConsole x = new PadConsole(0);
        Due.fail("text(0) at first", Due.NONE, () -> x.text(0));
        Due.ram(x, 0xc000, 0xc4, 0x34, 0x12);
        Due.be("tell(0xc000)", x.tell(0xc000), 3);
        // "call nz,1234"
        Due.be("look(18)", x.look(18), 12);
        Due.be("text(0)", x.text(0), 0x2c7a6e206c6c6163L);
        Due.be("text(4)", x.text(4), 0x343332312c7a6e20L);
        Due.be("text(8)", x.text(8), 0x34333231L);
        Due.be("text(11)", x.text(11), 0x34);
        Due.fail("text(12)", Due.NONE, () -> x.text(12));
        Due.fail("text(-1)", Due.NONE, () -> x.text(-1));
        Due.fail("text(-2147483648)", Due.NONE, () -> x.text(-2147483648));
        Due.be("tell(0x1c000)", x.tell(0x1c000), 3);
        Due.be("tell(0xc003)", x.tell(0xc003), 1);
        Due.be("look(18)", x.look(18), 3);
        Due.be("register(19)", x.register(19), 0);
        x.reset();
        Due.be("look(18) behind reset()", x.look(18), 3);
    }

    private static void fromCartridge() {
        PadConsole x = new PadConsole(0);
        Due.tape(x, 65536, 0);
        x.patch(0x7ff0, Due.TMR_SEGA);
        x.patch(3 * 16384, 0x76);
        x.load();
        x.poke(0xffff, 3);
        x.tell(0x8000);
        Due.be("text of what is read there", textOf(x), "halt");
        x.poke(0xffff, 0xc3);
        x.tell(0xffff);
        Due.be("text at the end of all addresses", textOf(x), "jp 0000");
    }
}
