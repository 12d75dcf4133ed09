/** Promise 34: wave; what the waves are made of, and that they are mixed. */
public final class WavesTest {
    private static final int[] MULTIPLES = {1, 2, 4, 6, 8, 10, 12, 14, 16, 18, 20, 20, 24, 24, 30, 30};

    private WavesTest() {
    }

    public static void main(String[] args) {
        registers();
        wrongCalls();
        rising();
        phases();
        shapes();
        tables();
        volumes();
        scales();
        feedback();
        releases();
        levelsByRate();
        highestRates();
        silence();
        rhythm();
        dust();
        mixed();
        reset();
        Due.end("WavesTest");
    }

    private static PadConsole console() {
        PadConsole x = new PadConsole(0);
        // Halting steps of 4 beats, eighteen for a wave.
        Due.code(x, 0x76);
        return x;
    }

    private static void put(PadConsole x, int k, int v) {
        x.out(0xf0, k);
        x.out(0xf1, v);
    }

    private static void waves(PadConsole x, int n) {
        for (int left = n; left > 0; left -= 1000) {
            x.step(18 * Math.min(1000, left));
        }
    }

    private static int level(PadConsole x, int c, int o) {
        return x.wave(128 + 8 * (2 * c + o));
    }

    private static int state(PadConsole x, int c, int o) {
        return x.wave(129 + 8 * (2 * c + o));
    }

    private static int phase(PadConsole x, int c, int o) {
        return x.wave(130 + 8 * (2 * c + o));
    }

    private static int out(PadConsole x, int c, int o) {
        return x.wave(131 + 8 * (2 * c + o));
    }

    private static void registers() {
        PadConsole x = new PadConsole(0);
        for (int k = 0; k < 64; k++) {
            Due.be("wave(" + k + ") at first", x.wave(k), 0);
            put(x, k + 64, 255 - k);
            Due.be("wave(" + k + ")", x.wave(k), 255 - k);
        }
        x.out(0xf1, 1);
        Due.be("wave(63), written again", x.wave(63), 1);
        x.out(0xf2, 7);
        Due.be("wave(64)", x.wave(64), 3);
        PadConsole y = new PadConsole(0);
        y.out(0xf1, 9);
        Due.be("wave(0), the number's first", y.wave(0), 9);
        Due.be("wave(65) at first", y.wave(65), 1);
        Due.be("wave(66) at first", y.wave(66), 0);
        Due.be("wave(67) at first", y.wave(67), 0);
        for (int k = 0; k < 18; k++) {
            int[] due = {127, 4, 0, 0, 0, 0};
            for (int i = 0; i < 6; i++) {
                Due.be("wave(" + (128 + 8 * k + i) + ") at first", y.wave(128 + 8 * k + i), due[i]);
            }
        }
    }

    private static void wrongCalls() {
        PadConsole x = new PadConsole(0);
        int[] wrong = {-1, 68, 127, 134, 135, 142, 270, 271, 272, 1000};
        for (int what : wrong) {
            Due.fail("wave(" + what + ")", Due.ARGUMENT, () -> x.wave(what));
        }
        Due.be("wave(269)", x.wave(269), 0);
    }

    /** A channel whose operator 0 stays silent; operator 1 is at once at its loudest, and stays. */
    private static void plainChannel(PadConsole x, int multiple) {
        put(x, 0, 0x20);
        put(x, 1, 0x20 | multiple);
        put(x, 2, 0);
        put(x, 3, 0);
        put(x, 4, 0);
        put(x, 5, 0xf0);
        put(x, 6, 0);
        put(x, 7, 0x05);
    }

    private static void rising() {
        PadConsole x = console();
        plainChannel(x, 1);
        put(x, 16, 100);
        waves(x, 1);
        Due.be("wave(66)", x.wave(66), 1);
        Due.be("state, not keyed", state(x, 0, 1), 4);
        put(x, 32, 0x10);
        Due.be("wave(141) ahead of the wave", x.wave(141), 0);
        waves(x, 1);
        Due.be("wave(141), that it is on", x.wave(141), 1);
        Due.be("state, keyed", state(x, 0, 1), 1);
        Due.be("level, keyed", level(x, 0, 1), 127);
        Due.be("phase, keyed", phase(x, 0, 1), 100);
        waves(x, 1);
        Due.be("state, a wave on", state(x, 0, 1), 2);
        Due.be("level, a wave on", level(x, 0, 1), 0);
        Due.be("state of operator 0", state(x, 0, 0), 1);
        Due.be("level of operator 0", level(x, 0, 0), 127);
        waves(x, 1);
        Due.be("state, two waves on", state(x, 0, 1), 3);
        waves(x, 50);
        Due.be("level that stays", level(x, 0, 1), 0);
        put(x, 32, 0);
        waves(x, 1);
        Due.be("state, not keyed any more", state(x, 0, 1), 4);
        Due.be("wave(141), that it is off", x.wave(141), 0);
    }

    private static void phases() {
        for (int multiple = 0; multiple < 16; multiple++) {
            PadConsole x = console();
            plainChannel(x, multiple);
            int f = 300 + 7 * multiple;
            int block = multiple % 8;
            put(x, 16, f & 255);
            put(x, 32, 0x10 | block << 1 | f >> 8);
            long more = ((2L * f * MULTIPLES[multiple]) << block) / 4;
            for (int n = 1; n < 8; n++) {
                waves(x, 1);
                Due.be("phase of multiple " + multiple, phase(x, 0, 1), n * more % (1 << 19));
            }
        }
        // SWAYS: with n from 1024 to 2047 half of F / 64 more.
        PadConsole x = console();
        plainChannel(x, 1);
        put(x, 1, 0x61);
        put(x, 16, 255);
        put(x, 32, 0x1f);
        int[] w = {0, 3, 7, 3, 0, -3, -7, -3, 0};
        int done = 0;
        for (int g = 0; g < 9; g++) {
            waves(x, 1024 * g + 10 - done);
            done = 1024 * g + 10;
            int before = phase(x, 0, 1);
            waves(x, 1);
            done++;
            Due.be("phase that sways, " + g, phase(x, 0, 1) - before & 0x7ffff, ((1022 + w[g]) * 2 << 7) / 4);
        }
    }

    private static int log(int i) {
        return (int) Math.round(-256 * Math.log(Math.sin((2 * i + 1) * Math.PI / 1024)) / Math.log(2));
    }

    private static int power(int i) {
        return (int) Math.round(1024 * (Math.pow(2, i / 256.0) - 1));
    }

    /** WAVE of the document, for t. */
    private static int shape(int p, int t, boolean halved) {
        int i = p % 256;
        if ((p & 256) != 0) {
            i = 255 - i;
        }
        int v = log(i) + 16 * Math.min(127, t);
        int value = 2 * (1024 + power(255 - v % 256) >> v / 256);
        return (p & 512) == 0 ? value : halved ? 0 : -value;
    }

    private static void shapes() {
        for (int halved = 0; halved < 2; halved++) {
            PadConsole x = console();
            plainChannel(x, 1);
            put(x, 3, halved << 4);
            put(x, 16, 0x0c);
            put(x, 32, 0x10 | 5 << 1 | 1);
            waves(x, 3);
            for (int n = 0; n < 100; n++) {
                Due.be("out at " + phase(x, 0, 1), out(x, 0, 1), shape(phase(x, 0, 1) / 512, 0, halved == 1));
                if (n % 3 == 0 && halved == 0) {
                    Due.be("wave(67)", x.wave(67), out(x, 0, 1));
                }
                waves(x, 1);
            }
        }
    }

    /**
     * Each entry of L, with LEVEL 0, and of E, with LEVEL 0 to 15. The first entries of L are heard so softly that
     * with LEVEL 0 their neighbours would sound the same: these with LEVEL 0 to 15, too.
     */
    private static void tables() {
        for (int quarter = 0; quarter < 2; quarter++) {
            PadConsole x = frozen(0);
            waves(x, 1024 + 128 * quarter - phase(x, 0, 1) / 512);
            outsFrom(x, 128 * quarter, 128 * quarter + 128, 0);
        }
        for (int level = 0; level < 16; level++) {
            PadConsole x = frozen(level);
            waves(x, 1024 - phase(x, 0, 1) / 512);
            outsFrom(x, 0, 32, level);
            waves(x, 200 - 32);
            outsFrom(x, 200, 256, level);
        }
    }

    /** Goes on from the phase p, by 1 a wave. */
    private static void outsFrom(PadConsole x, int from, int end, int level) {
        for (int p = from; p < end; p++) {
            Due.be("out at " + p + ", level " + level, out(x, 0, 1), shape(p, level, false));
            waves(x, 1);
        }
    }

    /** A channel whose operator 1 goes on by 1 a wave, and stays at a level. */
    private static PadConsole frozen(int level) {
        PadConsole x = console();
        plainChannel(x, 1);
        put(x, 7, 0xf0);
        put(x, 16, 0);
        put(x, 32, 0x10 | 1 << 1 | 1);
        waves(x, 2);
        for (int i = 0; i < 64 && level(x, 0, 1) != level; i++) {
            put(x, 5, 0xfd);
            waves(x, 1);
        }
        put(x, 5, 0xf0);
        Due.be("the level", level(x, 0, 1), level);
        return x;
    }

    private static void volumes() {
        PadConsole x = console();
        plainChannel(x, 1);
        put(x, 16, 200);
        put(x, 32, 0x10 | 4 << 1);
        waves(x, 4);
        for (int volume = 0; volume < 16; volume++) {
            put(x, 48, volume);
            waves(x, 1);
            Due.be("out of volume " + volume, out(x, 0, 1), shape(phase(x, 0, 1) / 512, 8 * volume, false));
        }
        PadConsole y = console();
        plainChannel(y, 1);
        put(y, 1, 0xa1);
        put(y, 16, 200);
        put(y, 32, 0x10);
        int n = 0;
        int[] at = {10, 64 * 50, 64 * 104 + 9, 64 * 106, 64 * 200, 64 * 209, 64 * 218};
        for (int then : at) {
            waves(y, then - n);
            n = then;
            int q = n / 64 % 210;
            int am = (q < 105 ? q : 210 - q) / 8;
            Due.be("out that trembles, " + n, out(y, 0, 1), shape(phase(y, 0, 1) / 512, am, false));
        }
    }

    private static void scales() {
        int[] scales = {0, 48, 64, 74, 80, 86, 90, 94, 96, 100, 102, 104, 106, 108, 110, 112};
        for (int scale = 0; scale < 4; scale++) {
            PadConsole x = console();
            plainChannel(x, 1);
            put(x, 3, scale << 6);
            put(x, 32, 0x10);
            waves(x, 4);
            for (int k = 0; k < 32; k++) {
                int block = k < 16 ? 6 : 3;
                int f = k % 16 * 32 + k;
                put(x, 16, f & 255);
                put(x, 32, 0x10 | block << 1 | f >> 8);
                waves(x, 1);
                int g = scale == 0 ? 0 : Math.max(0, scales[k % 16] - 16 * (7 - block)) >> 3 - scale;
                Due.be("out of scale " + scale + ", " + k, out(x, 0, 1), shape(phase(x, 0, 1) / 512, g, false));
            }
        }
    }

    private static void feedback() {
        for (int back = 0; back < 8; back++) {
            PadConsole x = console();
            plainChannel(x, 1);
            put(x, 0, 0x21);
            put(x, 2, 10);
            put(x, 3, back);
            put(x, 4, 0xf0);
            put(x, 16, 180);
            put(x, 32, 0x10 | 3 << 1);
            waves(x, 3);
            int out = out(x, 0, 0);
            int out2 = x.wave(132);
            for (int n = 0; n < 12; n++) {
                waves(x, 1);
                int d = back == 0 ? 0 : out + out2 >> 9 - back;
                int due = shape(phase(x, 0, 0) / 512 + d & 1023, 20, false);
                Due.be("out of operator 0 with BACK " + back, out(x, 0, 0), due);
                Due.be("out2 of operator 0", x.wave(132), out);
                Due.be("out of operator 1", out(x, 0, 1), shape(phase(x, 0, 1) / 512 + due & 1023, 0, false));
                out2 = out;
                out = due;
            }
        }
    }

    private static void releases() {
        // STATE 4: 5 with HOLD, else RELEASE with STAYS, else 7; the level grows by T.
        int[] heads = {0x21, 0x21, 0x01};
        int[] holds = {0x23, 0x03, 0x03};
        int[] rates = {5, 9, 7};
        for (int k = 0; k < 3; k++) {
            PadConsole x = console();
            plainChannel(x, 1);
            put(x, 1, heads[k]);
            put(x, 7, 9);
            put(x, 16, 1);
            put(x, 32, 0x13);
            waves(x, 3);
            put(x, 32, holds[k]);
            int span = 1 << 13 - rates[k];
            int before = level(x, 0, 1);
            int n = 3;
            int due = before;
            for (int i = 0; i < 6; i++) {
                int to = (i + 1) * span;
                if (to <= n) {
                    continue;
                }
                waves(x, to - n);
                n = to;
                due += (n / span & 1) == 1 ? 1 : 0;
                Due.be("level of rate " + rates[k] + " at " + n, level(x, 0, 1), due);
            }
        }
    }

    /** T of the document. */
    private static int tick(int i, int l) {
        boolean more = l == 1 && i == 4 || l == 2 && (i == 2 || i == 6) || l == 3 && (i == 2 || i == 4 || i == 6);
        return i % 2 == 1 || more ? 1 : 0;
    }

    /** The levels of STATE 3 (without STAYS), wave by wave, for all h and l that BLOCK and F give. */
    private static void levelsByRate() {
        for (int rate = 8; rate < 16; rate++) {
            for (int l = 0; l < 4; l++) {
                PadConsole x = console();
                plainChannel(x, 1);
                put(x, 1, 0x11);
                put(x, 7, rate);
                // With KEYED K is l.
                put(x, 32, 0x10 | l >> 1 << 1 | l & 1);
                waves(x, 4);
                int level = level(x, 0, 1);
                for (int n = 5; n < 40; n++) {
                    waves(x, 1);
                    int u = 2 * (n / 4 % 4);
                    int span = rate < 13 ? 1 << 13 - rate : 1;
                    int more = rate == 15 ? 2 : rate == 14 ? tick(u, l) + 1 : rate == 13 ? tick(u + n % 2, l)
                        : n % span == 0 ? tick(n / span % 8, l) : 0;
                    level = Math.min(127, level + more);
                    Due.be("level of rate " + rate + ", " + l + " at " + n, level(x, 0, 1), level);
                }
            }
        }
        for (int rate = 9; rate < 15; rate++) {
            for (int l = 0; l < 4; l++) {
                PadConsole x = console();
                plainChannel(x, 1);
                put(x, 1, 0x31);
                put(x, 5, rate << 4);
                put(x, 32, 0x10 | l >> 1 << 1 | l & 1);
                waves(x, 1);
                int level = level(x, 0, 1);
                for (int n = 2; n < 40; n++) {
                    waves(x, 1);
                    int u = 2 * (n / 4 % 4);
                    if (rate >= 12) {
                        level = level - (level >> 16 - rate - tick(u, l)) - 1;
                    } else if (n % (1 << 13 - rate) == 0 && tick(n / (1 << 13 - rate) % 8, l) == 1) {
                        level = level - level / 16 - 1;
                    }
                    level = Math.max(0, level);
                    Due.be("level that rises by " + rate + ", " + l + " at " + n, level(x, 0, 1), level);
                    if (level == 0) {
                        break;
                    }
                }
            }
        }
    }

    /** With BLOCK 7 and KEYED three more than the rate, but no more than 15. */
    private static void highestRates() {
        for (int rate = 10; rate < 16; rate++) {
            PadConsole x = console();
            plainChannel(x, 1);
            put(x, 1, 0x11);
            put(x, 7, rate);
            put(x, 16, 0);
            put(x, 32, 0x1e);
            waves(x, 4);
            int level = level(x, 0, 1);
            for (int n = 5; n < 30; n++) {
                waves(x, 1);
                int u = 2 * (n / 4 % 4);
                level += rate + 3 >= 15 ? 2 : rate + 3 == 14 ? tick(u, 2) + 1 : tick(u + n % 2, 2);
                Due.be("level of rate " + rate + " and 3 at " + n, level(x, 0, 1), level);
            }
        }
    }

    /** From LEVEL 124 on there is no sound, and STATE 0 ends. */
    private static void silence() {
        for (int stay = 121; stay < 128; stay++) {
            PadConsole x = console();
            plainChannel(x, 1);
            put(x, 1, 0x01);
            put(x, 16, 255);
            put(x, 32, 0x10 | 3 << 1);
            put(x, 7, 0x0e);
            waves(x, 3);
            for (int i = 0; i < 130 && level(x, 0, 1) < stay; i++) {
                put(x, 7, level(x, 0, 1) < stay - 3 ? 0x0f : 0x0d);
                waves(x, 1);
            }
            put(x, 7, 0);
            Due.be("the level", level(x, 0, 1), stay);
            waves(x, 1);
            int due = stay >= 124 ? 0 : shape(phase(x, 0, 1) / 512, stay, false);
            Due.be("out of level " + stay, out(x, 0, 1), due);
            put(x, 32, 0);
            put(x, 1, 0x21);
            waves(x, 1);
            put(x, 32, 0x10 | 3 << 1);
            for (int i = 0; i < 40 && state(x, 0, 1) != 1; i++) {
                waves(x, 1);
                Due.be("state of level " + level(x, 0, 1), state(x, 0, 1), level(x, 0, 1) >= 124 ? 1 : 0);
            }
            Due.be("the state at last", state(x, 0, 1), 1);
            Due.be("the phase where STATE 0 ends", phase(x, 0, 1), (2 * 255 * 2 << 3) / 4);
        }
    }

    private static void rhythm() {
        int[] bits = {0x10, 0x10, 1, 8, 4, 2};
        for (int k = 0; k < 6; k++) {
            PadConsole x = console();
            put(x, 14, 0x20 | bits[k]);
            waves(x, 1);
            for (int i = 0; i < 6; i++) {
                boolean due = bits[i] == bits[k];
                Due.be("on, of operator " + i, x.wave(128 + 8 * (12 + i) + 5), due ? 1 : 0);
            }
            put(x, 14, bits[k]);
            waves(x, 1);
            Due.be("on, without RHYTHM", x.wave(128 + 8 * (12 + k) + 5), 0);
            put(x, 14, 0x20);
            put(x, 38 + k / 2, 0x10);
            waves(x, 1);
            Due.be("on, by KEY", x.wave(128 + 8 * (12 + k) + 5), 1);
        }
        PadConsole x = console();
        for (int c = 6; c < 9; c++) {
            put(x, 10 + c, 50 * c & 255);
            put(x, 16 + c, 40 * c & 255);
            put(x, 32 + c, 4 + c);
            put(x, 48 + c, 0x21);
        }
        put(x, 14, 0x3f);
        waves(x, 6);
        boolean[] seen = new boolean[1024];
        for (int n = 0; n < 15; n++) {
            int dust = x.wave(65);
            int b = phase(x, 8, 1) / 512;
            waves(x, 1);
            int a = phase(x, 7, 0) / 512;
            int[] p = drums(x, a, b, dust & 1);
            for (int k = 0; k < 3; k++) {
                int at = 14 + k;
                int level = x.wave(128 + 8 * at);
                int got = x.wave(131 + 8 * at);
                Due.be("out of drum " + at + " is of its phase", level >= 124 ? 0 : Integer.signum(got), level >= 124 ? 0 : p[k] >= 512 ? -1 : 1);
                seen[p[k]] = true;
            }
            int sum = 0;
            for (int c = 0; c < 6; c++) {
                sum += out(x, c, 1);
            }
            sum += 2 * (out(x, 6, 1) + out(x, 7, 0) + out(x, 7, 1) + out(x, 8, 0) + out(x, 8, 1));
            Due.be("wave(67) with RHYTHM", x.wave(67), sum);
        }
        Due.be("that a drum was low", seen[0] || seen[0x100], true);
    }

    /** The phases of the drums 7, 0 and 7, 1 and 8, 0; b is as it was ahead of this wave. */
    private static int[] drums(PadConsole x, int a, int b, int y) {
        boolean differ = (a >> 2 & 1) != (a >> 7 & 1) || (a >> 3 & 1) != (b >> 5 & 1) || (b >> 3 & 1) != (b >> 5 & 1);
        int hat = differ ? y == 1 ? 0x2d0 : 0x234 : y == 1 ? 0x34 : 0xd0;
        boolean high = (phase(x, 7, 1) / 512 & 0x200) != 0;
        int snare = high ? y == 1 ? 0x300 : 0x200 : y == 1 ? 0 : 0x100;
        return new int[] {hat, snare, phase(x, 8, 0) / 512};
    }

    private static void dust() {
        PadConsole x = console();
        int dust = 1;
        for (int n = 0; n < 200; n++) {
            waves(x, 1);
            dust = ((dust & 1) == 1 ? dust ^ 0x800200 : dust) / 2;
            Due.be("wave(65)", x.wave(65), dust);
        }
        Due.be("wave(66)", x.wave(66), 200);
    }

    private static void mixed() {
        PadConsole x = console();
        plainChannel(x, 4);
        put(x, 16, 255);
        put(x, 32, 0x1f);
        for (int audio = 0; audio < 3; audio++) {
            x.out(0xf2, audio);
            x.step(2000);
            // To just behind a mix, the latest, which holds the latest wave but for what came since.
            long waits = x.look(17);
            int wave = 0;
            for (int i = 0; i < 60 && x.look(17) == waits; i++) {
                x.step(1);
                wave = x.wave(67);
            }
            long last = 0;
            for (long k = x.look(17); k > 0 && k < 130; k--) {
                last = x.mix();
            }
            Due.be("mix() with AUDIO " + audio, last, audio % 2 == 1 ? 65536L * wave + wave : 0);
        }
    }

    private static void reset() {
        PadConsole x = console();
        plainChannel(x, 1);
        put(x, 16, 99);
        put(x, 32, 0x1a);
        waves(x, 20);
        x.reset();
        x.set(19, 0xc000);
        Due.be("wave(66) behind reset()", x.wave(66), 20);
        Due.be("wave(65) behind reset()", x.wave(65), 1);
        Due.be("wave(141) behind reset()", x.wave(141), 0);
        Due.be("phase behind reset()", phase(x, 0, 1), 0);
        x.out(0xf1, 7);
        Due.be("wave(0) behind reset(), the number's first", x.wave(0), 7);
        waves(x, 1);
        Due.be("wave(66) a wave on", x.wave(66), 21);
    }
}
