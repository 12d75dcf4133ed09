/** Promises 32, 33, 35: hear, mix, sound. */
public final class SoundTest {
    private static final int[] LOUD = {
        8191, 6506, 5168, 4105, 3261, 2590, 2057, 1634, 1298, 1031, 819, 650, 517, 410, 326, 0,
    };

    private SoundTest() {
    }

    public static void main(String[] args) {
        registers();
        tones();
        shortPeriods();
        loudness();
        noise();
        noiseOfToneTwo();
        stereo();
        waitingSamples();
        mixes();
        waitingMixes();
        timeGoesOn();
        Due.end("SoundTest");
    }

    private static PadConsole idle(int kind) {
        PadConsole x = new PadConsole(kind);
        // Steps of 4 beats, four for a sample.
        Due.code(x, 0x76);
        return x;
    }

    private static void registers() {
        PadConsole x = new PadConsole(0);
        Due.fail("sound(-1)", Due.ARGUMENT, () -> x.sound(-1));
        Due.fail("sound(19)", Due.ARGUMENT, () -> x.sound(19));
        for (int what = 0; what < 19; what++) {
            int due = what >= 9 && what <= 12 ? 15 : what == 16 ? 0x8000 : what == 18 ? 255 : 0;
            Due.be("sound(" + what + ") at first", x.sound(what), due);
        }
        for (int c = 0; c < 3; c++) {
            x.out(0x7f, 0x80 | c << 5 | 0xe);
            Due.be("sound(17)", x.sound(17), 2 * c);
            Due.be("sound(" + c + ")", x.sound(c), 14);
            x.out(0x7f, 0x7f - c);
            Due.be("sound(" + c + ") with its upper bits", x.sound(c), (63 - c) * 16 + 14);
            x.out(0x7f, 0x15);
            Due.be("sound(" + c + ") with others", x.sound(c), 0x15e);
            x.out(0x7f, 0x81 | c << 5);
            Due.be("sound(" + c + ") with other low ones", x.sound(c), 0x151);
        }
        for (int c = 0; c < 4; c++) {
            x.out(0x7f, 0x90 | c << 5 | c);
            Due.be("sound(17)", x.sound(17), 2 * c + 1);
            Due.be("sound(" + (9 + c) + ")", x.sound(9 + c), c);
            x.out(0x7f, 0x4a);
            Due.be("sound(" + (9 + c) + ") by a second byte", x.sound(9 + c), 10);
        }
        x.out(0x7f, 0xef);
        Due.be("sound(13)", x.sound(13), 7);
        x.out(0x7f, 0x0b);
        Due.be("sound(13) by a second byte", x.sound(13), 3);
    }

    private static void tones() {
        PadConsole x = idle(0);
        int[] periods = {3, 5, 0x102};
        for (int c = 0; c < 3; c++) {
            x.out(0x7f, 0x80 | c << 5 | periods[c] & 15);
            x.out(0x7f, periods[c] >> 4);
            x.out(0x7f, 0x90 | c << 5 | c + 1);
        }
        x.step(4 * 40);
        for (int i = 0; i < 40; i++) {
            int sum = 0;
            for (int c = 0; c < 3; c++) {
                sum += i / periods[c] % 2 == 0 ? LOUD[c + 1] : 0;
            }
            Due.be("hear(), the sample " + i, x.hear(), 65536L * sum + sum);
        }
        Due.fail("hear() with none", Due.NONE, () -> x.hear());
        Due.be("sound(3)", x.sound(3), 3 - 39 % 3);
        Due.be("sound(4)", x.sound(4), 5 - 39 % 5);
        Due.be("sound(5)", x.sound(5), 0x102 - 39);
        Due.be("sound(6)", x.sound(6), 1 - 39 / 3 % 2);
        Due.be("sound(7)", x.sound(7), 1 - 39 / 5 % 2);
        Due.be("sound(8)", x.sound(8), 1);
        x.out(0x7f, 0x87);
        Due.be("sound(3) behind another PERIOD", x.sound(3), 3);
        x.step(4 * 3);
        Due.be("sound(3) with it", x.sound(3), 7);
    }

    private static void shortPeriods() {
        for (int period = 0; period < 3; period++) {
            PadConsole x = idle(0);
            x.out(0x7f, 0x80 | period);
            x.out(0x7f, 0x90);
            x.step(4 * 12);
            for (int i = 0; i < 12; i++) {
                boolean on = period < 2 || i / 2 % 2 == 0;
                Due.be("hear() of period " + period, x.hear(), on ? 8191 * 65537L : 0);
            }
            Due.be("sound(3) of period " + period, x.sound(3), period == 2 ? 1 : period);
        }
    }

    private static void loudness() {
        for (int v = 0; v < 16; v++) {
            PadConsole x = idle(0);
            x.out(0x7f, 0xb0 | v);
            x.step(4);
            Due.be("hear() of loudness " + v, x.hear(), 65537L * LOUD[v]);
        }
    }

    private static void noise() {
        for (int control = 0; control < 8; control++) {
            if ((control & 3) == 3) {
                continue;
            }
            PadConsole x = idle(0);
            x.out(0x7f, 0xe0 | control);
            x.out(0x7f, 0xf0);
            int period = 16 << (control & 3);
            int row = 0x8000;
            int level = 0;
            for (int i = 0; i < 40; i++) {
                // To the sample with which the noise's level changes.
                x.step(i == 0 ? 4 : 4 * period);
                level = 1 - level;
                if (level == 1) {
                    int bit = control < 4 ? row & 1 : row & 1 ^ row >> 3 & 1;
                    row = row >> 1 | bit << 15;
                }
                Due.be("sound(15)", x.sound(15), level);
                Due.be("sound(16) of control " + control, x.sound(16), row);
                Due.be("sound(14)", x.sound(14), period);
            }
            x.out(0x7f, 0xe0 | control);
            Due.be("sound(16) behind a new control", x.sound(16), 0x8000);
        }
        PadConsole x = idle(0);
        x.out(0x7f, 0xe0);
        x.out(0x7f, 0xf2);
        // 15 shifts bring the 1 down to bit 0: the first with the first sample, then one each 32 samples.
        x.step(4 * (1 + 32 * 14) - 4);
        Due.be("sound(16)", x.sound(16), 2);
        x.step(4 * 33);
        Due.be("sound(16) two shifts on", x.sound(16), 0x8000);
        int ones = 0;
        for (int i = 0; i < 481; i++) {
            ones += x.hear() == 5168 * 65537L ? 1 : 0;
        }
        Due.be("how many samples are loud", ones, 32);
    }

    private static void noiseOfToneTwo() {
        PadConsole x = idle(0);
        x.out(0x7f, 0xc1);
        x.out(0x7f, 0xe3);
        x.step(4 * 6);
        Due.be("sound(15), which changes each sample", x.sound(15), 0);
        Due.be("sound(16), three shifts", x.sound(16), 0x1000);
        x.out(0x7f, 0xc0);
        x.step(4 * 2);
        Due.be("sound(15) with period 0", x.sound(15), 0);
        Due.be("sound(16) with period 0", x.sound(16), 0x800);
        x.out(0x7f, 0xc5);
        x.step(4);
        Due.be("sound(14) with period 5", x.sound(14), 5);
        x.out(0x7f, 0xe7);
        x.step(4 * 5);
        Due.be("sound(15) five samples on", x.sound(15), 0);
        x.step(4 * 5);
        Due.be("sound(16) ten samples on", x.sound(16), 0x4000);
    }

    private static void stereo() {
        for (int bits = 0; bits < 256; bits += 5) {
            PadConsole x = idle(2);
            for (int c = 0; c < 3; c++) {
                x.out(0x7f, 0x90 | c << 5 | c);
            }
            x.out(6, bits);
            x.step(4);
            int left = 0;
            int right = 0;
            for (int c = 0; c < 3; c++) {
                left += (bits >> c + 4 & 1) * LOUD[c];
                right += (bits >> c & 1) * LOUD[c];
            }
            Due.be("hear() with STEREO " + bits, x.hear(), 65536L * left + right);
        }
        // The noise's 1 comes to bit 0 with its fifteenth shift.
        PadConsole x = idle(2);
        x.out(0x7f, 0xc1);
        x.out(0x7f, 0xe3);
        x.out(0x7f, 0xf0);
        x.out(6, 0x7f);
        x.step(4 * 29);
        for (int i = 0; i < 28; i++) {
            Due.be("hear() of the noise", x.hear(), 0);
        }
        Due.be("hear() of the noise, right alone", x.hear(), 8191);
        x.out(6, 0x80);
        x.step(4);
        Due.be("hear() of the noise, left alone", x.hear(), 8191L << 16);
    }

    private static void waitingSamples() {
        PadConsole x = idle(0);
        Due.fail("hear() at first", Due.NONE, () -> x.hear());
        x.step(3);
        Due.be("look(3), 12 beats", x.look(3), 0);
        x.step(1);
        Due.be("look(3), 16 beats", x.look(3), 1);
        x.step(4 * 4095);
        Due.be("look(3)", x.look(3), 4096);
        x.out(0x7f, 0x95);
        x.step(4);
        Due.be("look(3), the latest", x.look(3), 4096);
        Due.be("look(4)", x.look(4), 4097);
        x.step(4 * 1095);
        x.out(0x7f, 0x91);
        x.step(4 * 3000);
        Due.be("look(3)", x.look(3), 4096);
        Due.be("look(4)", x.look(4), 4097 + 1095 + 3000);
        Due.be("hear(), the first of the latest 4096", x.hear(), 2590 * 65537L);
        Due.be("look(3) behind it", x.look(3), 4095);
        Due.be("look(4) behind it", x.look(4), 8192);
    }

    private static void mixes() {
        PadConsole x = new PadConsole(2);
        Due.fail("mix() at first", Due.NONE, () -> x.mix());
        Due.code(x, 0x76);
        x.out(0x7f, 0x84);
        x.out(0x7f, 0x90);
        x.out(6, 0x21);
        x.out(0x7f, 0xb3);
        x.step(20);
        Due.be("look(17), 80 beats", x.look(17), 0);
        x.step(1);
        Due.be("look(17), 84 beats", x.look(17), 1);
        Due.be("mix(), of five samples, four of them on", x.mix(), 65536L * 4105 + 4 * 8191 / 5);
        x.step(20);
        Due.be("look(17), 164 beats", x.look(17), 1);
        Due.be("mix(), of five samples, two of them on", x.mix(), 65536L * 4105 + 2 * 8191 / 5);
        Due.fail("mix() with none", Due.NONE, () -> x.mix());
        PadConsole y = idle(0);
        y.out(0x7f, 0x86);
        y.out(0x7f, 0x97);
        y.step(42);
        Due.be("mix(), of five samples that are on", y.mix(), 1634 * 65537L);
        Due.be("mix(), of five samples, one of them on", y.mix(), 326 * 65537L);
    }

    private static void waitingMixes() {
        PadConsole x = idle(0);
        x.out(0x7f, 0x92);
        for (int i = 0; i < 5; i++) {
            x.step(20000);
        }
        int made = 400000 / 81;
        Due.be("look(17)", x.look(17), Math.min(4096, made));
        x.out(0x7f, 0x9f);
        x.step(2000);
        Due.be("mix()", x.mix(), 5168 * 65537L);
        Due.be("look(17) behind it", x.look(17), 4095);
    }

    /** reset() leaves the beats alone from which samples, waves and mixes come, and what is summed up. */
    private static void timeGoesOn() {
        PadConsole x = idle(0);
        x.out(0x7f, 0x90);
        x.step(15);
        x.reset();
        x.set(19, 0xc000);
        x.step(1);
        Due.be("look(4), 64 beats", x.look(4), 4);
        x.step(5);
        Due.be("mix(), over reset()", x.mix(), 3 * 8191 / 5 * 65537L);
    }
}
