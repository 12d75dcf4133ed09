/**
 * Promise 34: the rows of patches, "each eight bytes as sixteen digits". A channel whose PATCH is a row's number does,
 * wave by wave, what another does by the same bytes in the registers 0 to 7.
 */
public final class PatchesTest {
    private static final String[] ROWS = {
        "71611e17d0780017", "13411a0dd8f72313", "13019900f2c41123", "31610e07a8647027", "32211e06e0760028",
        "31221605e0710018", "21611d0782811007", "23212d14a2720007", "61611b0664651017", "41610b1885f77107",
        "13018311fae41004", "17c12407f8f82212", "61500c05c2f52042", "01015503c9950302", "61418903f1e44013",
        "0101180fdff86a6d",
    };
    private static final int OWN = 0;
    private static final int KEY = 0x10;
    private static final int LEVEL = 0;
    private static final int STATE = 1;
    private static final int OUT = 3;
    // Waves between two looks: close ones for what is heard, far ones for slow rates.
    private static final int[] CLOSE = {1, 1, 1, 1, 1, 1, 2, 3, 4, 5, 8, 8, 16, 16, 32, 64, 128, 256, 512, 700, 800, 900};
    private static final int[] FAR = {1, 2, 4, 8, 16, 32, 64, 128, 256, 512, 1024, 2048, 4096, 8192, 16384, 32768, 65536, 65536};

    private PatchesTest() {
    }

    public static void main(String[] args) {
        for (int number = 1; number <= ROWS.length; number++) {
            heard(number, 511, 7);
            heard(number, 300, 3);
            heard(number, 90, 5);
            heard(number, 90, 0);
            slow(number);
            if (number < 16) {
                decays(number);
            }
        }
        Due.end("PatchesTest");
    }

    private static void put(PadConsole x, int k, int v) {
        x.out(0xf0, k);
        x.out(0xf1, v);
    }

    /** A wave takes 18 steps of 4 beats of a console that halts; a picture of 313 lines some 991 waves. */
    private static void waves(PadConsole x, int n) {
        int due = x.wave(66) + n;
        int left = n;
        for (; left > 4000; left = due - x.wave(66) & 0xffff) {
            x.picture(3);
        }
        while (left > 0) {
            x.step(18 * Math.min(1000, left));
            left -= 1000;
        }
    }

    /** Row 16 is that of channel 6 with RHYTHM, whatever its PATCH. */
    private static int channelOf(int number) {
        return number == 16 ? 6 : 1;
    }

    private static PadConsole console(int number, int f, int block) {
        PadConsole x = new PadConsole(1);
        Due.code(x, 0x76);
        putRow(x, ROWS[number - 1]);
        int c = channelOf(number);
        put(x, 48 + c, number << 4 & 0xf0);
        put(x, 16 + OWN, f & 255);
        put(x, 16 + c, f & 255);
        if (number == 16) {
            put(x, 14, 0x20);
        }
        // Where SWAYS and TREMBLES are heard.
        waves(x, 1900);
        key(x, c, KEY | block << 1 | f >> 8);
        return x;
    }

    private static void putRow(PadConsole x, String row) {
        for (int k = 0; k < 8; k++) {
            put(x, k, Integer.parseInt(row.substring(2 * k, 2 * k + 2), 16));
        }
    }

    private static void key(PadConsole x, int c, int v) {
        put(x, 32 + OWN, v);
        put(x, 32 + c, v);
    }

    /** Compares what the operators have, from one number to another. */
    private static void same(PadConsole x, int number, int from, int to) {
        for (int o = 0; o < 2; o++) {
            for (int k = from; k <= to; k++) {
                int got = x.wave(128 + 8 * (2 * channelOf(number) + o) + k);
                Due.be("row " + number + ", operator " + o + ", " + k, got, x.wave(128 + 8 * (2 * OWN + o) + k));
            }
        }
    }

    private static void heard(int number, int f, int block) {
        PadConsole x = console(number, f, block);
        for (int n : CLOSE) {
            waves(x, n);
            same(x, number, LEVEL, OUT);
        }
    }

    private static void slow(int number) {
        PadConsole x = console(number, 511, 7);
        for (int n : FAR) {
            waves(x, n);
            same(x, number, LEVEL, STATE);
        }
        PadConsole y = console(number, 511, 7);
        waves(y, 200);
        key(y, channelOf(number), 7 << 1 | 1);
        for (int n : FAR) {
            waves(y, n);
            same(y, number, LEVEL, STATE);
        }
    }

    /**
     * With a DEPTH of 0 DECAY does something in one wave alone. So both channels wait in STATE 2, and get the row just
     * ahead of a wave whose n is a multiple of 2 to the e, but not of the next power.
     */
    private static void decays(int number) {
        for (int e = 1; e <= 12; e++) {
            PadConsole x = new PadConsole(1);
            Due.code(x, 0x76);
            putRow(x, "20200000f0f0f0f0");
            put(x, 16 + OWN, 255);
            put(x, 16 + channelOf(number), 255);
            key(x, channelOf(number), KEY | 7 << 1 | 1);
            waves(x, (1 << e) + (e < 6 ? 64 : 0) - 1);
            Due.be("the state ahead", x.wave(129), 2);
            putRow(x, ROWS[number - 1]);
            put(x, 48 + channelOf(number), number << 4);
            waves(x, 1);
            same(x, number, LEVEL, STATE);
        }
    }
}
