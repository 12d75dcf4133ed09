/** The edges of SOUND and of mixes, and of promises 32, 33, 35 (hear, mix, sound), sentence by sentence. */
public final class SoundEdgesTest {
    private static final int[] LOUD = {
        8191, 6506, 5168, 4105, 3261, 2590, 2057, 1634, 1298, 1031, 819, 650, 517, 410, 326, 0,
    };

    private SoundEdgesTest() {
    }

    public static void main(String[] args) {
        promise35AllAtFirst();
        latchFrom128On();
        loudnessIsModulo16();
        controlIsModulo8();
        periodHasTenBits();
        promise32EmptyAndFirst();
        promise32SamplesEach16Beats();
        promise32TwoSamplesOfOneStep();
        promise32TheLatest4096();
        promise32EachLoudness();
        promise32AllAtOnce();
        tonesOfShortestAndLongestPeriod();
        aPeriodCountsWhenTheCountEnds();
        noisePeriods();
        noiseRowGoesRound();
        promise33EmptyAndFirst();
        promise33MixesEach81Beats();
        promise33AllSamplesOfTheStepCount();
        promise33TheRestIsLeftAway();
        promise33TheLatest4096();
        promise33BelowZero();
        promise33BitZeroOfAudio();
        savedSamplesComeBack();
        resetLeavesTime();
        Due.end("SoundEdgesTest");
    }

    /** A console that halts: steps of 4 beats. */
    private static PadConsole halting(int kind) {
        PadConsole x = new PadConsole(kind);
        Due.code(x, 0x76);
        return x;
    }

    private static void promise35AllAtFirst() {
        for (int kind = 0; kind < 3; kind++) {
            PadConsole x = new PadConsole(kind);
            for (int what = 0; what < 19; what++) {
                int due = what >= 9 && what <= 12 ? 15 : what == 16 ? 0x8000 : what == 18 ? 255 : 0;
                Due.be("sound(" + what + ") at first", x.sound(what), due);
            }
            Due.fail("sound(-1)", Due.ARGUMENT, () -> x.sound(-1));
            Due.fail("sound(19)", Due.ARGUMENT, () -> x.sound(19));
        }
    }

    /** "from 128 on LATCH is v / 16 modulo 8." */
    private static void latchFrom128On() {
        PadConsole x = new PadConsole(0);
        for (int v = 128; v < 256; v += 15) {
            x.out(0x7f, v);
            Due.be("sound(17) behind " + v, x.sound(17), v / 16 % 8);
            x.out(0x40, 127);
            Due.be("sound(17) behind 127", x.sound(17), v / 16 % 8);
            x.out(0x7f, 0);
            Due.be("sound(17) behind 0", x.sound(17), v / 16 % 8);
        }
        x.out(0x7f, 128);
        Due.be("sound(17) behind 128", x.sound(17), 0);
        x.out(0x7f, 255);
        Due.be("sound(17) behind 255", x.sound(17), 7);
    }

    /** "if LATCH is odd, the loudness of c is v modulo 16", of a first and of a second byte. */
    private static void loudnessIsModulo16() {
        for (int c = 0; c < 4; c++) {
            PadConsole x = new PadConsole(0);
            int first = 0x90 + 32 * c;
            int[] values = {first, first + 15, 0, 15, 16, 127, 112, 64};
            for (int v : values) {
                x.out(0x7f, v);
                for (int k = 0; k < 4; k++) {
                    Due.be("sound(" + (9 + k) + ") behind " + v, x.sound(9 + k), k == c ? v % 16 : 15);
                }
                Due.be("sound(" + c % 3 + "), no PERIOD", x.sound(c % 3), 0);
            }
        }
    }

    /** "Else for c 3 CONTROL is v modulo 8, ROW 0x8000." */
    private static void controlIsModulo8() {
        PadConsole x = halting(0);
        int[] values = {0xe0, 0xe7, 0xe8, 0xef, 0, 7, 8, 15, 127, 120};
        for (int v : values) {
            x.step(4 * 40);
            x.out(0x7f, 0xe0);
            x.step(4 * 40);
            Due.be("that ROW has moved", x.sound(16) != 0x8000, true);
            x.out(0x7f, v);
            Due.be("sound(13) behind " + v, x.sound(13), v % 8);
            Due.be("sound(16) behind " + v, x.sound(16), 0x8000);
            Due.be("sound(12), no loudness", x.sound(12), 15);
        }
    }

    /** "from 128 on the PERIOD's low four bits are v modulo 16, below 128 its upper six v modulo 64". */
    private static void periodHasTenBits() {
        for (int c = 0; c < 3; c++) {
            PadConsole x = new PadConsole(0);
            x.out(0x7f, 0x80 + 32 * c + 15);
            Due.be("the low four bits", x.sound(c), 15);
            x.out(0x7f, 63);
            Due.be("all ten bits", x.sound(c), 1023);
            x.out(0x7f, 64);
            Due.be("the upper six 64 modulo 64", x.sound(c), 15);
            x.out(0x7f, 127);
            Due.be("the upper six 127 modulo 64", x.sound(c), 1023);
            x.out(0x7f, 0x80 + 32 * c);
            Due.be("the low four bits 0", x.sound(c), 1008);
            x.out(0x7f, 0);
            Due.be("all 0", x.sound(c), 0);
            for (int k = 0; k < 3; k++) {
                Due.be("sound(" + (3 + k) + "), which waits for a sample", x.sound(3 + k), 0);
                Due.be("sound(" + k + ")", x.sound(k), 0);
            }
        }
    }

    private static void promise32EmptyAndFirst() {
        PadConsole x = halting(0);
        Due.fail("hear() of a new object", Due.NONE, () -> x.hear());
        x.step(3);
        Due.fail("hear(), 12 beats", Due.NONE, () -> x.hear());
        x.step(1);
        Due.be("hear(), 16 beats", x.hear(), 0);
        Due.fail("hear() again", Due.NONE, () -> x.hear());
        Due.be("look(3)", x.look(3), 0);
        Due.be("look(4)", x.look(4), 1);
    }

    /** "Each 16 beats of all (from the beginning on)": 15 beats none, 16 one. */
    private static void promise32SamplesEach16Beats() {
        // 4, 5, 6, 7 beats: nop, ret nz that does not, inc bc, ld a,n.
        int[][] codes = {{0, 0, 0x3e, 1}, {0, 0, 0, 0}, {0, 0, 0, 0xc0}, {0x3e, 0, 0x3e, 0, 0}};
        int[] steps = {3, 4, 4, 3};
        int[] beats = {15, 16, 17, 18};
        for (int i = 0; i < codes.length; i++) {
            PadConsole x = new PadConsole(0);
            Due.code(x, codes[i]);
            x.set(1, 64);
            x.step(steps[i]);
            Due.be("look(0)", x.look(0), beats[i]);
            Due.be("look(3), " + beats[i] + " beats", x.look(3), beats[i] / 16);
            Due.be("look(4), " + beats[i] + " beats", x.look(4), beats[i] / 16);
        }
    }

    /** A step of 23 beats may make two of them. */
    private static void promise32TwoSamplesOfOneStep() {
        PadConsole x = new PadConsole(0);
        // Three nops, then inc (ix+00): 12 and 35 beats.
        Due.code(x, 0, 0, 0, 0xdd, 0x34, 0x00);
        x.set(16, 0xd000);
        x.out(0x7f, 0x81);
        x.out(0x7f, 0x93);
        x.out(0x7f, 0xb3);
        x.step(3);
        Due.be("look(3), 12 beats", x.look(3), 0);
        x.step(1);
        Due.be("look(0)", x.look(0), 35);
        Due.be("look(3), 35 beats", x.look(3), 2);
        Due.be("hear()", x.hear(), 2 * 4105 * 65537L);
        Due.be("hear()", x.hear(), 2 * 4105 * 65537L);
    }

    /** "The latest 4096 samples wait till they are taken." */
    private static void promise32TheLatest4096() {
        int[] made = {4095, 4096, 4097, 4100};
        for (int n : made) {
            PadConsole x = halting(0);
            // The first sample alone has loudness 1, the second 2, the third 3, the fourth 4, the others 5.
            for (int i = 1; i <= 4; i++) {
                x.out(0x7f, 0x90 + i);
                x.step(4);
            }
            x.out(0x7f, 0x95);
            x.step(4 * (n - 4));
            Due.be("look(3) of " + n, x.look(3), Math.min(4096, n));
            Due.be("look(4) of " + n, x.look(4), n);
            int lost = Math.max(0, n - 4096);
            Due.be("hear() of " + n, x.hear(), LOUD[Math.min(5, 1 + lost)] * 65537L);
            Due.be("hear() of " + n + ", the second", x.hear(), LOUD[Math.min(5, 2 + lost)] * 65537L);
            Due.be("look(3) behind two", x.look(3), Math.min(4096, n) - 2);
            // Two more fit, a third one does not.
            x.out(0x7f, 0x96);
            x.step(4 * 3);
            Due.be("look(3) behind three more", x.look(3), Math.min(4096, Math.min(4096, n) + 1));
        }
        // Those that come last are those that are taken last.
        PadConsole y = halting(0);
        y.out(0x7f, 0x91);
        y.step(4 * 4000);
        y.out(0x7f, 0x92);
        y.step(4 * 4000);
        y.out(0x7f, 0x93);
        y.step(4 * 96);
        Due.be("look(3)", y.look(3), 4096);
        Due.be("hear(), of the second 4000", y.hear(), LOUD[2] * 65537L);
    }

    /** By loudness: 8191 .. 0, of each tone and of the noise. */
    private static void promise32EachLoudness() {
        for (int c = 0; c < 4; c++) {
            for (int v = 0; v < 16; v++) {
                PadConsole x = halting(0);
                x.out(0x7f, 0x90 + 32 * c + v);
                if (c == 3) {
                    // Tone 2's period 0 moves the noise each sample: its 1 comes down in 29 of them.
                    x.out(0x7f, 0xe3);
                    x.step(4 * 29);
                    for (int i = 0; i < 28; i++) {
                        x.hear();
                    }
                } else {
                    x.step(4);
                }
                Due.be("hear() of " + c + ", loudness " + v, x.hear(), LOUD[v] * 65537L);
            }
        }
    }

    /** The loudest of all: 4 * 8191 for each ear. */
    private static void promise32AllAtOnce() {
        PadConsole x = halting(0);
        for (int c = 0; c < 4; c++) {
            x.out(0x7f, 0x90 + 32 * c);
        }
        x.out(0x7f, 0xe3);
        x.step(4 * 29);
        for (int i = 0; i < 28; i++) {
            Due.be("hear() without the noise", x.hear(), 3 * 8191 * 65537L);
        }
        Due.be("hear() of all", x.hear(), 65536L * 32764 + 32764);
    }

    /** "LEVEL the other one (1, if PERIOD is 0 or 1)"; PERIOD 2 and 1023. */
    private static void tonesOfShortestAndLongestPeriod() {
        int[] periods = {0, 1, 2, 3, 1022, 1023};
        for (int period : periods) {
            PadConsole x = halting(0);
            x.out(0x7f, 0xa0 + period % 16);
            x.out(0x7f, period / 16);
            x.step(4);
            Due.be("sound(4) of " + period, x.sound(4), period);
            Due.be("sound(7) of " + period, x.sound(7), 1);
            int more = Math.max(1, period);
            if (more > 1) {
                x.step(4 * (more - 1));
                Due.be("sound(7) of " + period + ", just ahead of its change", x.sound(7), 1);
                Due.be("sound(4) of " + period + ", just ahead of its change", x.sound(4), 1);
            }
            x.step(4);
            Due.be("sound(7) of " + period + ", changed", x.sound(7), period < 2 ? 1 : 0);
            Due.be("sound(4) of " + period + ", changed", x.sound(4), period);
            x.step(4 * more);
            Due.be("sound(7) of " + period + ", changed again", x.sound(7), 1);
        }
    }

    /** A new PERIOD is taken when COUNT has come to 0; one of 0 or 1 makes LEVEL 1, though it was 1. */
    private static void aPeriodCountsWhenTheCountEnds() {
        PadConsole x = halting(0);
        x.out(0x7f, 0x85);
        x.step(4);
        Due.be("sound(3)", x.sound(3), 5);
        x.out(0x7f, 0x80);
        x.step(4 * 4);
        Due.be("sound(3), still counting", x.sound(3), 1);
        Due.be("sound(6), still 1", x.sound(6), 1);
        x.step(4);
        Due.be("sound(3), with the new one", x.sound(3), 0);
        Due.be("sound(6), which stays 1", x.sound(6), 1);
        x.out(0x7f, 0x82);
        x.step(4);
        Due.be("sound(3)", x.sound(3), 2);
        Due.be("sound(6), the other one", x.sound(6), 0);
    }

    /** "the period 16, 32, 64, or (CONTROL modulo 4 is 3) that of tone 2". */
    private static void noisePeriods() {
        int[] periods = {16, 32, 64, 100};
        for (int control = 0; control < 8; control++) {
            PadConsole x = halting(0);
            x.out(0x7f, 0xc4);
            x.out(0x7f, 6);
            x.out(0x7f, 0xe0 + control);
            int period = periods[control % 4];
            x.step(4);
            Due.be("sound(14) of " + control, x.sound(14), period);
            Due.be("sound(15) of " + control, x.sound(15), 1);
            Due.be("sound(16) of " + control, x.sound(16), 0x4000);
            x.step(4 * (period - 1));
            Due.be("sound(14) of " + control + ", just ahead", x.sound(14), 1);
            Due.be("sound(15) of " + control + ", just ahead", x.sound(15), 1);
            x.step(4);
            Due.be("sound(15) of " + control + ", changed", x.sound(15), 0);
            Due.be("sound(16) of " + control + ", which only LEVEL 1 moves", x.sound(16), 0x4000);
            x.step(4 * period);
            Due.be("sound(16) of " + control + ", moved", x.sound(16), 0x2000);
        }
        // "(its LEVEL always the other one)": also with tone 2's PERIOD 0 and 1.
        for (int period = 0; period < 2; period++) {
            PadConsole x = halting(0);
            x.out(0x7f, 0xc0 + period);
            x.out(0x7f, 0xe3);
            for (int i = 0; i < 6; i++) {
                x.step(4);
                Due.be("sound(15) of period " + period, x.sound(15), 1 - i % 2);
                Due.be("sound(14) of period " + period, x.sound(14), period);
            }
        }
    }

    /** "0x8000 more if its bit 0 was 1 (CONTROL below 4), or if bits 0 and 3 were different (else)". */
    private static void noiseRowGoesRound() {
        for (int control = 3; control < 8; control += 4) {
            PadConsole x = halting(0);
            x.out(0x7f, 0xe0 + control);
            int row = 0x8000;
            for (int i = 0; i < 80; i++) {
                x.step(i == 0 ? 4 : 8);
                int more = control < 4 ? row & 1 : (row & 1) != (row >> 3 & 1) ? 1 : 0;
                row = row / 2 + 0x8000 * more;
                Due.be("sound(16) of " + control + ", moved " + (i + 1) + " times", x.sound(16), row);
            }
        }
    }

    private static void promise33EmptyAndFirst() {
        PadConsole x = halting(0);
        Due.fail("mix() of a new object", Due.NONE, () -> x.mix());
        x.step(20);
        Due.fail("mix(), 80 beats", Due.NONE, () -> x.mix());
        x.step(1);
        Due.be("mix(), 84 beats", x.mix(), 0);
        Due.fail("mix() again", Due.NONE, () -> x.mix());
        Due.be("look(17)", x.look(17), 0);
    }

    /** "Each 81 beats": 80 none, 81 one, 161 one, 162 two. */
    private static void promise33MixesEach81Beats() {
        int[] beats = {80, 81, 161, 162, 242, 243};
        for (int b : beats) {
            PadConsole x = new PadConsole(0);
            // Steps of 4, and at last one of 5 or 6: ret nz that does not, inc bc.
            int rest = b % 4;
            x.set(1, 64);
            x.set(19, 0xc100);
            x.step(rest == 0 ? b / 4 : b / 4 - 1);
            if (rest > 0) {
                Due.code(x, rest == 1 ? 0xc0 : rest == 2 ? 0x03 : 0x3e);
                x.step(1);
            }
            Due.be("look(0)", x.look(0), b);
            Due.be("look(17), " + b + " beats", x.look(17), b / 81);
        }
    }

    /** "(behind all that) a MIX: .. the sum of the samples since the mix before": also that of beat 96 of such a step. */
    private static void promise33AllSamplesOfTheStepCount() {
        PadConsole x = new PadConsole(0);
        int[] code = new int[22];
        code[19] = 0xdd;
        code[20] = 0x34;
        Due.code(x, code);
        x.set(16, 0xd000);
        // Tone 0 is on for five samples, then off for five.
        x.out(0x7f, 0x85);
        x.out(0x7f, 0x90);
        x.step(19);
        Due.be("look(3), 76 beats", x.look(3), 4);
        x.step(1);
        Due.be("look(0)", x.look(0), 99);
        Due.be("look(3), 99 beats", x.look(3), 6);
        Due.be("mix(), of six samples", x.mix(), 5 * 8191 / 6 * 65537L);
    }

    /** "divided by how many": the rest is left away, for each ear by itself. */
    private static void promise33TheRestIsLeftAway() {
        PadConsole x = halting(2);
        // Tone 0 on for 3 samples of 5 or 6, left alone; tone 1 always, right alone.
        x.out(0x7f, 0x83);
        x.out(0x7f, 0x9e);
        x.out(0x7f, 0xbd);
        x.out(6, 0x12);
        x.step(21);
        Due.be("mix()", x.mix(), 65536L * (3 * 326 / 5) + 410);
        x.step(20);
        // The samples 6 .. 10, of which 7, 8 and 9 are on.
        Due.be("mix(), the second", x.mix(), 65536L * (3 * 326 / 5) + 410);
    }

    /** "The latest 4096 mixes wait till they are taken." */
    private static void promise33TheLatest4096() {
        // 81 steps of 4 beats make four mixes.
        int[] more = {4095, 4096, 4097};
        for (int n : more) {
            PadConsole x = halting(0);
            // The first mix is of tone 0 loud, the others of less.
            x.out(0x7f, 0x90);
            x.step(21);
            x.out(0x7f, 0x91);
            int steps = (81 * n + 3) / 4 - 21;
            while (steps > 0) {
                int now = Math.min(20000, steps);
                x.step(now);
                steps -= now;
            }
            Due.be("look(17) of " + n, x.look(17), Math.min(4096, n));
            Due.be("mix(), the first of " + n, x.mix(), n <= 4096 ? 8191 * 65537L : 6506 * 65537L);
            Due.be("look(17) behind it", x.look(17), Math.min(4096, n) - 1);
            x.step(21);
            Due.be("look(17) behind one more", x.look(17), Math.min(4096, n));
        }
    }

    /** A channel of the waves that sounds at once: F 511, BLOCK 7. */
    private static PadConsole waving() {
        PadConsole x = halting(0);
        int[][] registers = {{0, 0x20}, {1, 0x21}, {5, 0xf0}, {7, 0x05}, {16, 255}, {32, 0x1f}};
        for (int[] r : registers) {
            x.out(0xf0, r[0]);
            x.out(0xf1, r[1]);
        }
        return x;
    }

    /** "65536 * left + right (each may be below 0)". */
    private static void promise33BelowZero() {
        PadConsole x = waving();
        x.out(0xf2, 1);
        boolean below = false;
        boolean above = false;
        for (int i = 0; i < 30; i++) {
            // To the step that makes the next mix: the latest wave is in it.
            x.step(19);
            while (x.look(17) == 0) {
                x.step(1);
            }
            int wave = x.wave(67);
            below |= wave < 0;
            above |= wave > 0;
            Due.be("mix() of wave " + wave, x.mix(), 65536L * wave + wave);
        }
        Due.be("that waves were below 0", below, true);
        Due.be("that waves were above 0", above, true);
    }

    /** "and the latest wave (0 at first) more, if bit 0 of AUDIO is 1". */
    private static void promise33BitZeroOfAudio() {
        for (int audio = 0; audio < 5; audio++) {
            PadConsole x = waving();
            x.out(0x7f, 0x97);
            x.out(0xf2, audio);
            // 81 and 162 beats: behind the first and the second wave.
            x.step(21);
            Due.be("mix(), the first", x.mix(), (1634 + (audio % 2 == 1 ? x.wave(67) : 0)) * 65537L);
            x.step(20);
            int wave = x.wave(67);
            Due.be("that the wave is not 0", wave != 0, true);
            Due.be("mix() with AUDIO " + audio, x.mix(), (1634 + (audio % 2 == 1 ? wave : 0)) * 65537L);
            Due.be("hear(), in which there are no waves", x.hear(), 1634 * 65537L);
        }
    }

    /** Saved are "samples and mixes that wait". */
    private static void savedSamplesComeBack() {
        PadConsole x = halting(0);
        x.out(0x7f, 0x91);
        x.step(4 * 10 + 3);
        x.save();
        x.out(0x7f, 0x92);
        for (int i = 0; i < 10; i++) {
            x.hear();
        }
        x.mix();
        x.step(4 * 5000);
        x.restore();
        Due.be("look(3) behind restore()", x.look(3), 10);
        Due.be("look(17) behind restore()", x.look(17), 2);
        for (int i = 0; i < 10; i++) {
            Due.be("hear() behind restore()", x.hear(), 6506 * 65537L);
        }
        Due.fail("hear() behind them", Due.NONE, () -> x.hear());
        x.step(1);
        Due.be("hear(), the eleventh", x.hear(), 6506 * 65537L);
    }

    /** RESET leaves "samples that wait", "the mixes that wait, and sums for the next one", and the beats. */
    private static void resetLeavesTime() {
        PadConsole x = halting(0);
        x.out(0x7f, 0x90);
        x.step(23);
        x.reset();
        Due.be("look(3) behind reset()", x.look(3), 5);
        Due.be("look(17) behind reset()", x.look(17), 1);
        Due.be("sound(9) behind reset()", x.sound(9), 15);
        x.set(19, 0xc000);
        x.step(1);
        Due.be("look(3), 96 beats", x.look(3), 6);
        x.step(17);
        Due.be("look(0)", x.look(0), 164);
        Due.be("mix(), the first", x.mix(), 8191 * 65537L);
        Due.be("mix(), of samples that were made behind reset()", x.mix(), 0);
        for (int i = 0; i < 5; i++) {
            Due.be("hear(), made ahead of reset()", x.hear(), 8191 * 65537L);
        }
        Due.be("hear(), made behind reset()", x.hear(), 0);
    }
}
