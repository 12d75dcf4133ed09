/** The edges of WAVES and of promise 34 (wave), sentence by sentence. */
public final class WaveEdgesTest {
    private WaveEdgesTest() {
    }

    public static void main(String[] args) {
        promise34FirstAndLastNumbers();
        promise34EachOperatorByItself();
        aWaveEach72Beats();
        nGoesRoundAt65536();
        bitsOfAChannel();
        phaseGoesRound();
        onAndOffBetweenWaves();
        stateZeroFrom124On();
        stateOneEndsAtZero();
        stateTwoEndsAtDepth();
        oneStateAWave();
        ratesOfZero();
        levelIsAtMost127();
        silentFrom124On();
        softnessIsAtMost127();
        tremblesUpAndDown();
        swaysAtEach1024();
        scalesAtLeastZero();
        ratesAreAtMost15();
        halvedWaves();
        backZeroAndMost();
        patchZeroAndTheLast();
        rhythmPatchesAndSums();
        rhythmBits();
        dustHas23Bits();
        resetLeavesN();
        savedWavesComeBack();
        Due.end("WaveEdgesTest");
    }

    /** A console that halts: steps of 4 beats, eighteen for a wave. */
    private static PadConsole console() {
        PadConsole x = new PadConsole(0);
        Due.code(x, 0x76);
        return x;
    }

    private static void put(PadConsole x, int k, int v) {
        x.out(0xf0, k);
        x.out(0xf1, v);
    }

    private static void waves(PadConsole x, int n) {
        for (int left = n; left > 0; left -= 1000) {
            x.step(18 * Math.min(1000, left));
        }
    }

    private static int of(PadConsole x, int c, int o, int part) {
        return x.wave(128 + 8 * (2 * c + o) + part);
    }

    /** Operator 1 of channel 0 is at once at its loudest and stays; operator 0 is never heard. */
    private static PadConsole plain(int head, int f, int block) {
        PadConsole x = console();
        put(x, 0, 0x20);
        put(x, 1, head);
        put(x, 5, 0xf0);
        put(x, 16, f & 255);
        put(x, 32, 0x10 | block << 1 | f >> 8);
        return x;
    }

    private static int log(int i) {
        return (int) Math.round(-256 * Math.log(Math.sin((2 * i + 1) * Math.PI / 1024)) / Math.log(2));
    }

    private static int power(int i) {
        return (int) Math.round(1024 * (Math.pow(2, i / 256.0) - 1));
    }

    /** The value of WAVE at p modulo 1024 for t, as t is. */
    private static int shape(int p, int t) {
        int i = (p & 256) != 0 ? 255 - p % 256 : p % 256;
        int v = log(i) + 16 * t;
        int value = 2 * (1024 + power(255 - v % 256) >> v / 256);
        return (p & 512) != 0 ? -value : value;
    }

    /** Its phase, which grows by 512 a wave, stands at p, at LEVEL 0. */
    private static PadConsole standing(int head, int p) {
        PadConsole x = plain(head, 256, 1);
        put(x, 7, 0xf0);
        waves(x, p);
        put(x, 32, 0x10);
        Due.be("the phase", of(x, 0, 1, 2), 512 * (p % 1024));
        Due.be("the level", of(x, 0, 1, 0), 0);
        return x;
    }

    /** Brings operator 1 of channel 0 from LEVEL 0 to a level, where it stays. */
    private static void quieten(PadConsole x, int level) {
        if (level > 8) {
            // In STATE 3 without STAYS, by 2 a wave.
            put(x, 7, 0x0f);
            put(x, 1, 0x01);
            waves(x, 2 + (level - 8) / 2);
        }
        put(x, 1, 0x01);
        put(x, 7, 0x0d);
        for (int i = 0; i < 60 && of(x, 0, 1, 0) < level; i++) {
            waves(x, 1);
        }
        put(x, 7, 0x00);
        Due.be("the level", of(x, 0, 1, 0), level);
    }

    /** "0 .. 63 a register, 64 AUDIO, 65 DUST, 66 n modulo 65536, 67 the latest wave; 128 + 8 * (2 * c + o) and on". */
    private static void promise34FirstAndLastNumbers() {
        PadConsole x = new PadConsole(0);
        for (int k = -1; k < 274; k++) {
            int what = k;
            boolean is = k >= 0 && k < 68 || k >= 128 && k < 272 && k % 8 < 6;
            if (is) {
                int due = k == 65 ? 1 : k < 128 ? 0 : k % 8 == 0 ? 127 : k % 8 == 1 ? 4 : 0;
                Due.be("wave(" + k + ") at first", x.wave(k), due);
            } else {
                Due.fail("wave(" + k + ")", Due.ARGUMENT, () -> x.wave(what));
            }
        }
    }

    /** Each channel's KEY, F and BLOCK are told by its own numbers. */
    private static void promise34EachOperatorByItself() {
        for (int c = 0; c < 9; c++) {
            PadConsole x = console();
            put(x, 0, 0x21);
            put(x, 1, 0x22);
            put(x, 16 + c, 40);
            put(x, 32 + c, 0x10);
            waves(x, 1);
            for (int k = 0; k < 18; k++) {
                boolean mine = k / 2 == c;
                Due.be("ON of " + k, x.wave(128 + 8 * k + 5), mine ? 1 : 0);
                Due.be("STATE of " + k, x.wave(128 + 8 * k + 1), mine ? 1 : 4);
                Due.be("PHASE of " + k, x.wave(128 + 8 * k + 2), mine ? 40 * (1 + k % 2) : 0);
            }
        }
    }

    /** "A WAVE is made each 72 beats": 71 none, 72 one, 143 one, 144 two. */
    private static void aWaveEach72Beats() {
        int[] beats = {68, 71, 72, 140, 143, 144};
        for (int b : beats) {
            PadConsole x = new PadConsole(0);
            x.set(19, 0xc100);
            x.step(b % 4 == 0 ? b / 4 : b / 4 - 1);
            if (b % 4 == 3) {
                Due.code(x, 0x3e);
                x.step(1);
            }
            Due.be("look(0)", x.look(0), b);
            Due.be("wave(66), " + b + " beats", x.wave(66), b / 72);
        }
    }

    /** "66 n modulo 65536", while n itself goes on. */
    private static void nGoesRoundAt65536() {
        PadConsole x = new PadConsole(0);
        // inc (ix+00), 23 beats, and a jump back, 12.
        Due.code(x, 0xdd, 0x34, 0x00, 0x18, 0xfb);
        x.set(16, 0xd000);
        for (int i = 0; i < 13; i++) {
            x.step(20000);
        }
        x.step(9632);
        Due.be("look(0)", x.look(0), 65536 * 72 - 32);
        x.step(1);
        Due.be("wave(66), 9 beats ahead", x.wave(66), 65535);
        x.step(1);
        Due.be("wave(66), which goes round", x.wave(66), 0);
        x.step(6);
        Due.be("wave(66), a wave on", x.wave(66), 1);
        x.reset();
        Due.be("wave(66) behind reset()", x.wave(66), 1);
    }

    /** "F is register 16 + c, and 256 more with bit 0 of register 32 + c; BLOCK its bits 1 .. 3, KEY bit 4, HOLD bit 5". */
    private static void bitsOfAChannel() {
        int[] values = {0x00, 0x01, 0x0e, 0x0f, 0x10, 0x20, 0xc0, 0xcf, 0xff};
        for (int v : values) {
            PadConsole x = console();
            put(x, 1, 0x21);
            put(x, 16, 0xff);
            put(x, 32, v);
            waves(x, 1);
            int f = 255 + 256 * (v & 1);
            Due.be("PHASE of register 32 " + v, of(x, 0, 1, 2), (2 * f * 2 << (v >> 1 & 7)) / 4 % (1 << 19));
            Due.be("ON of register 32 " + v, of(x, 0, 1, 5), v >> 4 & 1);
        }
    }

    /** "PHASE grows .. modulo 2 to the 19"; with F 0 not at all. */
    private static void phaseGoesRound() {
        PadConsole x = plain(0x2f, 511, 7);
        long more = (2L * 511 * 30 << 7) / 4;
        for (int n = 1; n < 40; n++) {
            waves(x, 1);
            Due.be("PHASE, the fastest, " + n, of(x, 0, 1, 2), n * more % (1 << 19));
        }
        PadConsole y = plain(0x2f, 0, 7);
        waves(y, 9);
        Due.be("PHASE with F 0", of(y, 0, 1, 2), 0);
        PadConsole z = plain(0x20, 1, 0);
        waves(z, 9);
        Due.be("PHASE with F 1 and MULTIPLE 0, which is less than 1", of(z, 0, 1, 2), 0);
        PadConsole w = plain(0x20, 2, 0);
        waves(w, 9);
        Due.be("PHASE with F 2 and MULTIPLE 0", of(w, 0, 1, 2), 9);
    }

    /** "When it is ON that was not at the wave before (at first it was not)": what lies between waves is not seen. */
    private static void onAndOffBetweenWaves() {
        PadConsole x = plain(0x21, 100, 0);
        waves(x, 4);
        Due.be("STATE", of(x, 0, 1, 1), 3);
        put(x, 32, 0x00);
        put(x, 32, 0x10);
        waves(x, 1);
        Due.be("STATE, off and on between two waves", of(x, 0, 1, 1), 3);
        Due.be("PHASE, which goes on", of(x, 0, 1, 2), 500);
        put(x, 32, 0x00);
        waves(x, 1);
        Due.be("STATE, off", of(x, 0, 1, 1), 4);
        put(x, 32, 0x10);
        put(x, 32, 0x00);
        waves(x, 1);
        Due.be("STATE, on and off between two waves", of(x, 0, 1, 1), 4);
        Due.be("ON", of(x, 0, 1, 5), 0);
        put(x, 32, 0x10);
        Due.be("ON, as at the latest wave", of(x, 0, 1, 5), 0);
        waves(x, 1);
        Due.be("ON", of(x, 0, 1, 5), 1);
        Due.be("STATE, on", of(x, 0, 1, 1), 0);
    }

    /** "STATE 0 with LEVEL 124 and more: STATE 1, PHASE is 0 (LEVEL stays)." With 123 it stays in STATE 0. */
    private static void stateZeroFrom124On() {
        int[] levels = {0, 100, 122, 123, 124, 126, 127};
        for (int level : levels) {
            PadConsole x = standing(0x21, 20);
            quieten(x, level);
            // Off with RELEASE 0 and STAYS: the level stays; then on again.
            put(x, 1, 0x21);
            put(x, 32, 0x00);
            waves(x, 1);
            Due.be("STATE off", of(x, 0, 1, 1), 4);
            Due.be("LEVEL off", of(x, 0, 1, 0), level);
            put(x, 5, 0x00);
            put(x, 32, 0x10);
            boolean grows = false;
            int now = level;
            for (int i = 0; i < 12; i++) {
                waves(x, 1);
                int state = of(x, 0, 1, 1);
                now = of(x, 0, 1, 0);
                Due.be("STATE with LEVEL " + now, state, now >= 124 ? 1 : 0);
                Due.be("PHASE with LEVEL " + now, of(x, 0, 1, 2), now >= 124 ? 0 : 512 * 20);
                grows |= now > level;
            }
            if (level <= 123) {
                Due.be("that LEVEL has grown", grows, true);
            }
            if (level >= 126) {
                Due.be("LEVEL, which stays", now, level);
            }
        }
    }

    /** "STATE 1 with LEVEL 0: STATE 2"; "At least 0." */
    private static void stateOneEndsAtZero() {
        for (int attack = 12; attack <= 15; attack++) {
            PadConsole x = plain(0x21, 1, 0);
            put(x, 5, 16 * attack);
            put(x, 7, 0xf0);
            waves(x, 1);
            int level = 127;
            Due.be("STATE", of(x, 0, 1, 1), 1);
            for (int n = 2; n < 60 && level > 0; n++) {
                waves(x, 1);
                int u = 2 * (n / 4 % 4);
                // l is 0: T is 1 for odd places alone, and u is even.
                level = attack == 15 ? 0 : Math.max(0, level - (level >> 16 - attack) - 1);
                Due.be("LEVEL of ATTACK " + attack + " at " + n + ", " + u, of(x, 0, 1, 0), level);
                Due.be("STATE of ATTACK " + attack + " at " + n, of(x, 0, 1, 1), level == 0 ? 2 : 1);
            }
            waves(x, 3);
            Due.be("LEVEL, at least 0", of(x, 0, 1, 0), 0);
        }
    }

    /** "STATE 2 with LEVEL / 8 not below DEPTH: 3." */
    private static void stateTwoEndsAtDepth() {
        int[] depths = {1, 2, 7, 14, 15};
        for (int depth : depths) {
            PadConsole x = plain(0x21, 1, 0);
            put(x, 5, 0xff);
            put(x, 7, 16 * depth);
            waves(x, 2);
            Due.be("STATE", of(x, 0, 1, 1), 2);
            // DECAY 15: by 2 a wave, to 8 * DEPTH.
            waves(x, 4 * depth - 1);
            Due.be("LEVEL, just below DEPTH " + depth, of(x, 0, 1, 0), 8 * depth - 2);
            Due.be("STATE, just below DEPTH " + depth, of(x, 0, 1, 1), 2);
            waves(x, 1);
            Due.be("LEVEL at DEPTH " + depth, of(x, 0, 1, 0), 8 * depth);
            Due.be("STATE at DEPTH " + depth, of(x, 0, 1, 1), 3);
            waves(x, 5);
            Due.be("LEVEL, which STAYS", of(x, 0, 1, 0), 8 * depth);
        }
    }

    /** "(One of these at most.)" */
    private static void oneStateAWave() {
        PadConsole x = plain(0x21, 1, 0);
        int[] states = {1, 2, 3, 3};
        for (int i = 0; i < 4; i++) {
            waves(x, 1);
            Due.be("STATE, " + i + " waves behind the first", of(x, 0, 1, 1), states[i]);
        }
    }

    /** "but nothing is done with R 0", of each state; "Then (with R 0, too)". */
    private static void ratesOfZero() {
        PadConsole x = plain(0x21, 511, 7);
        put(x, 5, 0x00);
        waves(x, 200);
        Due.be("LEVEL with ATTACK 0", of(x, 0, 1, 0), 127);
        Due.be("STATE with ATTACK 0", of(x, 0, 1, 1), 1);
        put(x, 5, 0xf0);
        put(x, 7, 0x10);
        waves(x, 200);
        Due.be("LEVEL with DECAY 0", of(x, 0, 1, 0), 0);
        Due.be("STATE with DECAY 0", of(x, 0, 1, 1), 2);
        put(x, 7, 0x0f);
        waves(x, 200);
        Due.be("STATE with DECAY 0 and DEPTH 0", of(x, 0, 1, 1), 3);
        Due.be("LEVEL with STAYS in STATE 3", of(x, 0, 1, 0), 0);
        put(x, 7, 0x00);
        put(x, 1, 0x01);
        waves(x, 200);
        Due.be("LEVEL with RELEASE 0 in STATE 3", of(x, 0, 1, 0), 0);
        put(x, 1, 0x21);
        put(x, 32, 0x0f);
        waves(x, 200);
        Due.be("STATE, off", of(x, 0, 1, 1), 4);
        Due.be("LEVEL with RELEASE 0 and STAYS in STATE 4", of(x, 0, 1, 0), 0);
        put(x, 1, 0x01);
        waves(x, 200);
        Due.be("that LEVEL grows by 7 without STAYS", of(x, 0, 1, 0) > 0, true);
    }

    /** "at most 127". */
    private static void levelIsAtMost127() {
        PadConsole x = plain(0x21, 1, 0);
        waves(x, 4);
        put(x, 7, 0x0f);
        put(x, 32, 0x00);
        waves(x, 63);
        Due.be("LEVEL, 63 waves of 2", of(x, 0, 1, 0), 126);
        waves(x, 1);
        Due.be("LEVEL, a wave on", of(x, 0, 1, 0), 127);
        waves(x, 5);
        Due.be("LEVEL, which is not more", of(x, 0, 1, 0), 127);
        Due.be("STATE", of(x, 0, 1, 1), 4);
    }

    /** "WAVE(p) .. 0 when LEVEL is 124 and more". */
    private static void silentFrom124On() {
        int[] levels = {0, 1, 119, 122, 123, 124, 125, 126, 127};
        for (int level : levels) {
            PadConsole x = standing(0x21, 255);
            quieten(x, level);
            waves(x, 1);
            Due.be("OUT with LEVEL " + level, of(x, 0, 1, 3), level >= 124 ? 0 : shape(255, level));
            Due.be("wave(67) with LEVEL " + level, x.wave(67), level >= 124 ? 0 : shape(255, level));
        }
    }

    /** "t is LEVEL + G + 8 * VOLUME .., at most 127". */
    private static void softnessIsAtMost127() {
        int[] levels = {0, 6, 7, 8, 60};
        for (int level : levels) {
            PadConsole x = standing(0x21, 255);
            quieten(x, level);
            for (int volume = 0; volume < 16; volume += 5) {
                put(x, 48, volume);
                waves(x, 1);
                int t = Math.min(127, level + 8 * volume);
                Due.be("OUT with LEVEL " + level + ", VOLUME " + volume, of(x, 0, 1, 3), shape(255, t));
            }
        }
        Due.be("that t 127 is not silent", shape(255, 127) > 0, true);
    }

    /** "AM: with q = n / 64 modulo 210: q, or 210 - q from 105 on, / 8." */
    private static void tremblesUpAndDown() {
        PadConsole x = standing(0xa1, 255);
        int[] qs = {7, 8, 15, 16, 103, 104, 105, 106, 107, 201, 202, 203, 209, 210, 217, 218};
        int[] due = {0, 1, 1, 2, 12, 13, 13, 13, 12, 1, 1, 0, 0, 0, 0, 1};
        int n = x.wave(66);
        for (int i = 0; i < qs.length; i++) {
            int[] at = {64 * qs[i], 64 * qs[i] + 63};
            for (int then : at) {
                if (then > n) {
                    waves(x, then - n);
                    n = then;
                    Due.be("OUT with n " + n, of(x, 0, 1, 3), shape(255, due[i]));
                }
            }
        }
        put(x, 1, 0x21);
        waves(x, 1);
        Due.be("OUT that does not tremble", of(x, 0, 1, 3), shape(255, 0));
    }

    /** "with f = F / 64 and g = n / 1024 modulo 8: for g 0 and 4 0, 1 and 3 f / 2, 2 f, 5 and 7 -(f / 2), 6 -f." */
    private static void swaysAtEach1024() {
        int[] fs = {511, 64, 63};
        int[][] w = {{0, 3, 7, 3, 0, -3, -7, -3, 0}, {0, 0, 1, 0, 0, 0, -1, 0, 0}, {0, 0, 0, 0, 0, 0, 0, 0, 0}};
        for (int i = 0; i < fs.length; i++) {
            PadConsole x = plain(0x6e, fs[i], 7);
            waves(x, 1021);
            int n = 1021;
            for (int g = 1; g <= 8; g++) {
                waves(x, 1024 * g - 2 - n);
                n = 1024 * g - 2;
                int before = of(x, 0, 1, 2);
                waves(x, 1);
                int last = of(x, 0, 1, 2);
                waves(x, 1);
                int first = of(x, 0, 1, 2);
                n += 2;
                Due.be("wave(66)", x.wave(66), 1024 * g);
                Due.be("the last of g " + (g - 1), last - before & 0x7ffff, ((2 * fs[i] + w[i][g - 1]) * 30 << 7) / 4 & 0x7ffff);
                Due.be("the first of g " + g % 8, first - last & 0x7ffff, ((2 * fs[i] + w[i][g]) * 30 << 7) / 4 & 0x7ffff);
            }
        }
    }

    /** "G: .. less 16 * (7 - BLOCK), at least 0: k / 4, k / 2, k by SCALE." */
    private static void scalesAtLeastZero() {
        int[] scales = {0, 48, 64, 74, 80, 86, 90, 94, 96, 100, 102, 104, 106, 108, 110, 112};
        for (int scale = 0; scale < 4; scale++) {
            for (int block = 0; block < 8; block += block == 1 ? 2 : 1) {
                PadConsole x = standing(0x21, 255);
                put(x, 3, scale << 6);
                int[] fs = {0, 31, 32, 63, 64, 479, 480, 511};
                for (int f : fs) {
                    put(x, 16, f & 255);
                    put(x, 32, 0x10 | block << 1 | f >> 8);
                    waves(x, 1);
                    int k = Math.max(0, scales[f / 32] - 16 * (7 - block));
                    int g = scale == 0 ? 0 : scale == 1 ? k / 4 : scale == 2 ? k / 2 : k;
                    int p = of(x, 0, 1, 2) / 512;
                    Due.be("OUT of SCALE " + scale + ", BLOCK " + block + ", F " + f, of(x, 0, 1, 3), shape(p, g));
                }
            }
        }
    }

    /** "h = R + K / 4, at most 15": R 15 with K 15 is no faster than R 15 with K 0. */
    private static void ratesAreAtMost15() {
        int[] rates = {12, 13, 14, 15};
        for (int rate : rates) {
            PadConsole x = plain(0x11, 511, 7);
            put(x, 7, rate);
            waves(x, 4);
            int level = of(x, 0, 1, 0);
            for (int i = 0; i < 10; i++) {
                waves(x, 1);
                level += 2;
                Due.be("LEVEL of rate " + rate + " with KEYED and K 15", of(x, 0, 1, 0), level);
            }
            // Without KEYED K is 15 / 4: h is the rate itself, and l 3.
            PadConsole y = plain(0x01, 511, 7);
            put(y, 7, rate);
            waves(y, 4);
            int soft = of(y, 0, 1, 0);
            for (int n = 5; n < 25; n++) {
                waves(y, 1);
                int u = 2 * (n / 4 % 4);
                int more = rate == 15 ? 2 : rate == 14 ? t3(u) + 1 : rate == 13 ? t3(u + n % 2) : n % 2 == 0 ? t3(n / 2 % 8) : 0;
                soft += more;
                Due.be("LEVEL of rate " + rate + " without KEYED at " + n, of(y, 0, 1, 0), soft);
            }
        }
    }

    /** T of the document for l 3: all but 0. */
    private static int t3(int i) {
        return i == 0 ? 0 : 1;
    }

    /** "less than 0 with bit 9 of p, but 0 then with HALVED"; bit 3 + o of byte 3. */
    private static void halvedWaves() {
        int[] ps = {0, 255, 256, 511, 512, 767, 768, 1023};
        for (int p : ps) {
            PadConsole x = standing(0x21, p == 0 ? 1024 : p);
            int phase = of(x, 0, 1, 2) / 512 % 1024;
            int[] bytes = {0x00, 0x08, 0x10, 0x18};
            for (int b : bytes) {
                put(x, 3, b);
                waves(x, 1);
                int due = (b & 0x10) != 0 && p >= 512 ? 0 : shape(p, 0);
                Due.be("OUT at " + phase + " with byte 3 " + b, of(x, 0, 1, 3), due);
            }
        }
    }

    /** "d is 0 without BACK, else (OUT + OUT2) >> (9 - BACK) (.. >> rounds down)". */
    private static void backZeroAndMost() {
        for (int back = 0; back < 8; back++) {
            PadConsole x = console();
            put(x, 0, 0x21);
            put(x, 1, 0x21);
            put(x, 3, back);
            put(x, 4, 0xf0);
            put(x, 5, 0xf0);
            put(x, 16, 77);
            put(x, 32, 0x1b);
            waves(x, 2);
            int out = of(x, 0, 0, 3);
            int out2 = of(x, 0, 0, 4);
            boolean below = false;
            for (int n = 0; n < 30; n++) {
                waves(x, 1);
                int sum = out + out2;
                int d = back == 0 ? 0 : Math.floorDiv(sum, 1 << 9 - back);
                below |= sum < 0;
                int due = shape(Math.floorMod(of(x, 0, 0, 2) / 512 + d, 1024), 0);
                Due.be("OUT of operator 0 with BACK " + back, of(x, 0, 0, 3), due);
                Due.be("OUT2 of operator 0 with BACK " + back, of(x, 0, 0, 4), out);
                int second = shape(Math.floorMod(of(x, 0, 1, 2) / 512 + due, 1024), 0);
                Due.be("OUT of operator 1 with BACK " + back, of(x, 0, 1, 3), second);
                out2 = out;
                out = due;
            }
            Due.be("that a sum was below 0", below, true);
        }
    }

    /** "for 0 the bytes are registers 0 .. 7, else the row of that number": the first and the last one, by MULTIPLE and LOW. */
    private static void patchZeroAndTheLast() {
        // Bytes 0 and 1 of the rows 1 .. 15: their low four bits are the MULTIPLEs.
        int[] zeros = {0x71, 0x13, 0x13, 0x31, 0x32, 0x31, 0x21, 0x23, 0x61, 0x41, 0x13, 0x17, 0x61, 0x01, 0x61};
        int[] ones = {0x61, 0x41, 0x01, 0x61, 0x21, 0x22, 0x61, 0x21, 0x61, 0x61, 0x01, 0xc1, 0x50, 0x01, 0x41};
        int[] m = {1, 2, 4, 6, 8, 10, 12, 14, 16, 18, 20, 20, 24, 24, 30, 30};
        PadConsole x = console();
        put(x, 0, 0x0f);
        put(x, 1, 0x0d);
        put(x, 16, 100);
        waves(x, 1);
        Due.be("PHASE of operator 0, PATCH 0", of(x, 0, 0, 2), 100 * 2 * 30 / 4);
        Due.be("PHASE of operator 1, PATCH 0", of(x, 0, 1, 2), 100 * 2 * 24 / 4);
        for (int patch = 1; patch < 16; patch++) {
            int first = of(x, 0, 0, 2);
            int second = of(x, 0, 1, 2);
            put(x, 48, 16 * patch + 15);
            waves(x, 1);
            Due.be("PHASE of operator 0, PATCH " + patch, of(x, 0, 0, 2) - first, 100 * 2 * m[zeros[patch - 1] % 16] / 4);
            Due.be("PHASE of operator 1, PATCH " + patch, of(x, 0, 1, 2) - second, 100 * 2 * m[ones[patch - 1] % 16] / 4);
        }
    }

    /** "With RHYTHM (bit 5 of register 14) the channels 6, 7, 8 have the rows 16, 17, 18." */
    private static void rhythmPatchesAndSums() {
        int[] m = {2, 2, 2, 2, 10, 2};
        for (int rhythm = 0; rhythm < 2; rhythm++) {
            PadConsole x = console();
            put(x, 14, 0x20 * rhythm);
            for (int c = 5; c < 9; c++) {
                put(x, 16 + c, 100);
                // PATCH 2 has the MULTIPLEs 3 and 1.
                put(x, 48 + c, 0x20);
            }
            waves(x, 1);
            Due.be("PHASE of channel 5", of(x, 5, 0, 2), 100 * 2 * 6 / 4);
            for (int k = 0; k < 6; k++) {
                int due = 100 * 2 * (rhythm == 1 ? m[k] : k % 2 == 0 ? 6 : 2) / 4;
                Due.be("PHASE of operator " + (12 + k) + ", RHYTHM " + rhythm, x.wave(128 + 8 * (12 + k) + 2), due);
            }
        }
        // The sum: OUT of operator 1 once, twice with RHYTHM, and both twice of the channels 7 and 8.
        PadConsole x = console();
        for (int c = 0; c < 9; c++) {
            put(x, 16 + c, 150 + c);
            put(x, 32 + c, 0x18);
            put(x, 48 + c, 0x30);
        }
        boolean seen = false;
        for (int i = 0; i < 12; i++) {
            if (i == 6) {
                put(x, 14, 0x20);
            }
            waves(x, 3);
            int sum = 0;
            for (int c = 0; c < 9; c++) {
                boolean drum = i >= 6 && c >= 6;
                sum += of(x, c, 1, 3) * (drum ? 2 : 1);
                sum += drum && c >= 7 ? 2 * of(x, c, 0, 3) : 0;
            }
            seen |= sum != 0;
            Due.be("wave(67), " + i, x.wave(67), sum);
        }
        Due.be("that something was heard", seen, true);
    }

    /** "with RHYTHM, (KEY or) bit 4 of register 14 for both of channel 6, bit 0 .. 3 .. 2 .. 1". */
    private static void rhythmBits() {
        int[] bits = {16, 16, 1, 8, 4, 2};
        for (int v = 0; v < 64; v += 3) {
            PadConsole x = console();
            put(x, 14, v);
            waves(x, 1);
            for (int k = 0; k < 18; k++) {
                boolean on = k >= 12 && (v & 32) != 0 && (v & bits[k - 12]) != 0;
                Due.be("ON of " + k + " with register 14 " + v, x.wave(128 + 8 * k + 5), on ? 1 : 0);
            }
        }
        PadConsole y = console();
        put(y, 14, 0xc0);
        put(y, 37, 0x10);
        waves(y, 1);
        Due.be("ON of channel 5 by KEY", of(y, 5, 1, 5), 1);
        Due.be("ON of channel 6", of(y, 6, 1, 5), 0);
    }

    /** "DUST, 23 bits, 1 at first: .. if its bit 0 is 1 it becomes, by exclusive or, 0x800200 more; then it is halved." */
    private static void dustHas23Bits() {
        PadConsole x = console();
        int dust = 1;
        boolean high = false;
        for (int n = 0; n < 240; n++) {
            Due.be("wave(65), " + n, x.wave(65), dust);
            high |= dust >= 1 << 22;
            waves(x, 1);
            dust = ((dust & 1) == 1 ? dust ^ 0x800200 : dust) / 2;
        }
        Due.be("that bit 22 was 1", high, true);
    }

    /** "(RESET: all is as at first, but n.)" */
    private static void resetLeavesN() {
        PadConsole x = plain(0x21, 300, 5);
        put(x, 14, 0x3f);
        x.out(0xf2, 3);
        waves(x, 70);
        Due.be("that a wave is there", x.wave(67) != 0, true);
        x.reset();
        for (int k = 0; k < 272; k++) {
            if (k < 68 || k >= 128 && k % 8 < 6) {
                int due = k == 65 ? 1 : k == 66 ? 70 : k < 128 ? 0 : k % 8 == 0 ? 127 : k % 8 == 1 ? 4 : 0;
                Due.be("wave(" + k + ") behind reset()", x.wave(k), due);
            }
        }
        x.out(0xf1, 9);
        Due.be("wave(0) behind reset(), the number's first", x.wave(0), 9);
    }

    /** What was saved comes back: registers, the number, AUDIO, DUST, n and the operators. */
    private static void savedWavesComeBack() {
        PadConsole x = plain(0x21, 300, 5);
        x.out(0xf2, 1);
        x.out(0xf0, 33);
        waves(x, 9);
        int[] watched = {0, 1, 16, 32, 33, 64, 65, 66, 67, 136, 137, 138, 139, 140, 141};
        int[] before = new int[watched.length];
        for (int i = 0; i < watched.length; i++) {
            before[i] = x.wave(watched[i]);
        }
        x.save();
        put(x, 32, 0);
        x.out(0xf2, 0);
        waves(x, 50);
        x.restore();
        for (int i = 0; i < watched.length; i++) {
            Due.be("wave(" + watched[i] + ") behind restore()", x.wave(watched[i]), before[i]);
        }
        x.out(0xf1, 0x12);
        Due.be("wave(33), by the number that was saved", x.wave(33), 0x12);
    }
}
