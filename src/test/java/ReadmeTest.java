/** The calls that README.md shows, with the answers that it tells. */
public final class ReadmeTest {
    private ReadmeTest() {
    }

    public static void main(String[] args) {
        PadConsole x = new PadConsole(0);
        Due.be("feed", x.feed(3, 0x76fb00, 0, 0), 3);
        Due.be("grow", x.grow(32768), 3);
        Due.be("load", x.load(), 0);
        x.press(0, 1);
        Due.be("in", x.in(0xdc), 254);
        Due.be("picture", x.picture(1), 14934);
        Due.be("dot", x.dot(10, 10), 0);
        Due.be("tell", x.tell(1), 1);
        Due.be("text", x.text(0), 0x6965);
        Due.end("ReadmeTest");
    }
}
