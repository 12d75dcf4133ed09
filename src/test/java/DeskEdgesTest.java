/** The edges of THE DESK and of promises 7 to 10, 14, 17 to 19, 36, 37, sentence by sentence. */
public final class DeskEdgesTest {
    private DeskEdgesTest() {
    }

    public static void main(String[] args) {
        promise7AtMostNSteps();
        promise7LessAtABreakPoint();
        promise8OneToThreePictures();
        promise8APictureEndsWithTheStepThatDoesIt();
        promise8OrABreakPoint();
        promise9ResetOfANewAndOfABusyConsole();
        promise9LinesDoNotRiseByReset();
        promise10APauseWaitsOnce();
        promise10APauseIsForgotten();
        promise10APauseComesFirst();
        promise14NumbersNeverFall();
        promise14PlansOfPicturesThatAreDone();
        promise14TheLatestOfOnePicture();
        promise14RoomComesBack();
        promise14AFrontThatWaitsHoldsTheOthers();
        promise14PlansStay();
        promise17ZeroToEightBreakPoints();
        promise17FirstAndLastAddress();
        promise17NotAheadOfTheFirstStep();
        promise17TheyStay();
        promise18SavedAgain();
        promise19RestoreMoreThanOnce();
        promise19WhatDoesNotComeBack();
        promise19ACartridgeForgets();
        promise36ThirtyTwoSteps();
        promise36EveryKindOfStep();
        promise37CountsSinceTheBeginning();
        promise37TapeTextAndStops();
        Due.end("DeskEdgesTest");
    }

    /** "At most n steps (less at a break point): how many." n is 1 .. 20000. */
    private static void promise7AtMostNSteps() {
        PadConsole x = new PadConsole(0);
        Due.code(x, 0x76);
        Due.be("step(1)", x.step(1), 1);
        Due.be("look(1)", x.look(1), 1);
        Due.be("step(2)", x.step(2), 2);
        Due.be("step(19999)", x.step(19999), 19999);
        Due.be("step(20000)", x.step(20000), 20000);
        Due.be("look(1)", x.look(1), 40002);
        Due.be("look(0)", x.look(0), 4 * 40002);
        Due.be("look(2), which ends no run of steps", x.look(2), 4 * 40002 / (262 * 228));
    }

    /** The break point may come just with the last step, or a step later. */
    private static void promise7LessAtABreakPoint() {
        for (int at = 1; at <= 6; at++) {
            PadConsole x = new PadConsole(0);
            x.set(19, 0xc000);
            x.stop(0xc000 + at, true);
            Due.be("step(5) with a break point " + at + " steps on", x.step(5), Math.min(at, 5));
            Due.be("register(19)", x.register(19), 0xc000 + Math.min(at, 5));
            Due.be("look(1)", x.look(1), Math.min(at, 5));
        }
    }

    /** "Steps till n pictures more are done". n is 1 .. 3. */
    private static void promise8OneToThreePictures() {
        for (int n = 1; n <= 3; n++) {
            for (int kind = 0; kind < 3; kind++) {
                PadConsole x = new PadConsole(kind);
                Due.idle(x);
                int lines = kind == 1 ? 313 : 262;
                Due.be("picture(" + n + ") of kind " + kind, x.picture(n), 19 * lines * n);
                Due.be("look(2)", x.look(2), n);
                Due.be("chip(20)", x.chip(20), 0);
                Due.be("picture(" + n + ") again", x.picture(n), 19 * lines * n);
                Due.be("look(2)", x.look(2), 2 * n);
            }
        }
    }

    /** A step more or less ahead of the call makes one step less or more. */
    private static void promise8APictureEndsWithTheStepThatDoesIt() {
        PadConsole x = new PadConsole(0);
        Due.idle(x);
        x.step(19 * 262 - 1);
        Due.be("picture(1), a step ahead of the end", x.picture(1), 1);
        Due.be("look(2)", x.look(2), 1);
        x.step(1);
        Due.be("picture(1), a step behind the end", x.picture(1), 19 * 262 - 1);
        Due.be("look(2)", x.look(2), 2);
        // Beats that the last step has too many begin the next line.
        PadConsole y = new PadConsole(0);
        Due.code(y, 0xc3, 0x00, 0xc0);
        int steps = (262 * 228 + 9) / 10;
        Due.be("picture(1) with steps of 10", y.picture(1), steps);
        Due.be("chip(21) behind it", y.chip(21), 10 * steps - 262 * 228);
    }

    /** "(or a break point): how many steps." */
    private static void promise8OrABreakPoint() {
        PadConsole x = new PadConsole(0);
        Due.code(x, 0, 0, 0, 0x18, 0xfb);
        x.stop(0xc003, true);
        Due.be("picture(3) to a break point", x.picture(3), 3);
        Due.be("look(2)", x.look(2), 0);
        Due.be("picture(3) on from there", x.picture(3), 4);
        x.stop(0xc003, false);
        // Three steps of 4 beats and one of 12: 262 * 228 beats are 9956 * 6.
        long before = x.look(0);
        x.picture(1);
        Due.be("look(2)", x.look(2), 1);
        Due.be("that beats are those of a picture", x.look(0) - before <= 262 * 228, true);
    }

    /** "RESET: .. are as at first, no pause waits; .. stay." */
    private static void promise9ResetOfANewAndOfABusyConsole() {
        for (int kind = 0; kind < 3; kind++) {
            PadConsole x = new PadConsole(kind);
            x.reset();
            Due.same("a new object behind reset()", x, new PadConsole(kind));
            PadConsole y = Due.busy(kind);
            PadConsole first = new PadConsole(kind);
            y.reset();
            for (int k = 0; k < 96; k++) {
                if (k < 26 || k >= 32) {
                    Due.be("chip(" + k + ") behind reset()", y.chip(k), first.chip(k));
                }
            }
            for (int k = 0; k < 27; k++) {
                Due.be("register(" + k + ") behind reset()", y.register(k), first.register(k));
            }
            for (int k = 0; k < 64; k++) {
                Due.be("wave(" + k + ") behind reset()", y.wave(k), 0);
            }
            for (int k = 0; k < 19; k++) {
                Due.be("sound(" + k + ") behind reset()", y.sound(k), first.sound(k));
            }
            for (int p = 1; p < 6; p++) {
                Due.be("in(" + p + ") behind reset()", y.in(p), first.in(p));
            }
            resetKeeps(y, Due.busy(kind), kind);
        }
    }

    private static void resetKeeps(PadConsole y, PadConsole before, int kind) {
        int[] stay = {0, 1, 2, 3, 4, 5, 6, 7, 15, 16, 17, 18};
        for (int k : stay) {
            Due.be("look(" + k + ") behind reset()", y.look(k), before.look(k));
        }
        int[] first = {0, 0, 1, 2, 0, 0, 255};
        for (int k = 0; k < 7; k++) {
            Due.be("look(" + (8 + k) + ") behind reset()", y.look(8 + k), first[k]);
        }
        Due.be("wave(66), n, behind reset()", y.wave(66), before.wave(66));
        Due.be("wave(65) behind reset()", y.wave(65), 1);
        Due.be("wave(64) behind reset()", y.wave(64), 0);
        Due.be("wave(67) behind reset()", y.wave(67), 0);
        Due.be("peek(0xc000), RAM, behind reset()", y.peek(0xc000), 0x3c);
        Due.be("peek(0xd003), RAM, behind reset()", y.peek(0xd003), before.peek(0xd003));
        Due.be("battery(0) behind reset()", y.battery(0), 21);
        Due.be("video(0) behind reset()", y.video(0), 0);
        Due.be("row(20), the picture, behind reset()", y.row(20), before.row(20));
        Due.be("trace(31) behind reset()", y.trace(31), before.trace(31));
        Due.be("in(0xdc), the pads, behind reset()", y.in(0xdc), before.in(0xdc));
        Due.be("in(0xdd), pad 1, behind reset()", y.in(0xdd), before.in(0xdd));
        Due.be("in(0), START, behind reset()", y.in(0), kind == 2 ? 64 : 255);
        Due.be("hear() behind reset()", y.hear(), before.hear());
        Due.be("mix() behind reset()", y.mix(), before.mix());
    }

    /** "H LATCH, whatever LINE 0 and 1 become by that". */
    private static void promise9LinesDoNotRiseByReset() {
        PadConsole x = new PadConsole(0);
        Due.idle(x);
        x.step(5);
        x.out(0x3f, 0);
        Due.be("in(0xdd) with both lines 0", x.in(0xdd) & 0xc0, 0);
        x.reset();
        Due.be("in(0xdd) behind reset()", x.in(0xdd) & 0xc0, 0xc0);
        Due.be("look(13) behind reset()", x.look(13), 0);
        x.line(0, false);
        x.set(19, 0xc000);
        x.step(2);
        x.line(0, true);
        Due.be("look(13), 24 beats behind reset()", x.look(13), 18);
        x.reset();
        Due.be("look(13) behind another reset()", x.look(13), 0);
    }

    /** "A pause waits": once, however often it was asked for; "of a handy console nothing: whether it does." */
    private static void promise10APauseWaitsOnce() {
        PadConsole x = new PadConsole(1);
        Due.code(x, 0, 0);
        Due.be("pause()", x.pause(), true);
        Due.be("pause() again", x.pause(), true);
        Due.be("look(12)", x.look(12), 1);
        x.step(1);
        Due.be("look(12) a step on", x.look(12), 0);
        Due.be("register(19)", x.register(19), 0x66);
        x.set(19, 0xc000);
        x.step(1);
        Due.be("register(19), with no second pause", x.register(19), 0xc001);
        PadConsole handy = new PadConsole(2);
        Due.code(handy, 0, 0);
        Due.be("pause() of a handy console", handy.pause(), false);
        Due.be("look(12) of a handy console", handy.look(12), 0);
        handy.step(1);
        Due.be("register(19) of a handy console", handy.register(19), 0xc001);
    }

    /** "reset() and load() forget it, restore() brings it back". */
    private static void promise10APauseIsForgotten() {
        PadConsole x = new PadConsole(0);
        x.pause();
        x.reset();
        Due.be("look(12) behind reset()", x.look(12), 0);
        Due.code(x, 0);
        x.step(1);
        Due.be("register(19) behind reset()", x.register(19), 0xc001);
        x.pause();
        x.save();
        x.step(1);
        Due.be("look(12) behind the pause", x.look(12), 0);
        x.restore();
        Due.be("look(12) behind restore()", x.look(12), 1);
        x.step(1);
        Due.be("register(19) behind restore()", x.register(19), 0x66);
        x.save();
        x.pause();
        x.restore();
        Due.be("look(12), saved without one", x.look(12), 0);
        x.pause();
        Due.be("load() of nothing", x.load(), 1);
        Due.be("look(12) behind an error", x.look(12), 1);
        Due.tape(x, 8192, 0);
        Due.be("load()", x.load(), 0);
        Due.be("look(12) behind load()", x.look(12), 0);
    }

    /** "if a PAUSE waits .. IFF1 is 0 .. Else if IFF1 is 1 and the video chip ASKS": never both. */
    private static void promise10APauseComesFirst() {
        PadConsole x = new PadConsole(0);
        Due.videoRegister(x, 0, 0x10);
        Due.idle(x);
        x.step(19);
        Due.be("chip(17)", x.chip(17), 1);
        x.set(23, 1);
        x.set(24, 1);
        x.pause();
        long beats = x.look(0);
        x.step(1);
        Due.be("register(19) behind both", x.register(19), 0x66);
        Due.be("register(23) behind both", x.register(23), 0);
        Due.be("register(24), which a pause leaves alone", x.register(24), 1);
        Due.be("look(0)", x.look(0), beats + 11);
        x.set(19, 0xc000);
        x.step(1);
        Due.be("register(19), the chip not heard with IFF1 0", x.register(19), 0xc000);
        x.set(23, 1);
        x.step(1);
        Due.be("register(19), the chip heard", x.register(19), 0x38);
        Due.be("register(24), which the chip makes 0", x.register(24), 0);
    }

    /** "when number is below that of the latest one that waits, or below 0". */
    private static void promise14NumbersNeverFall() {
        PadConsole x = new PadConsole(0);
        Due.be("plan(0, 0, 0), the least", x.plan(0, 0, 0), 1);
        Due.be("plan(0, 1, 63), the same number", x.plan(0, 1, 63), 2);
        Due.be("plan(7, 1, 0)", x.plan(7, 1, 0), 3);
        Due.fail("plan(6, 0, 0)", Due.ARGUMENT, () -> x.plan(6, 0, 0));
        Due.be("plan(7, 0, 0)", x.plan(7, 0, 0), 4);
        Due.be("plan(2147483647, 0, 0), the greatest", x.plan(Integer.MAX_VALUE, 0, 0), 5);
        Due.fail("plan(2147483646, 0, 0)", Due.ARGUMENT, () -> x.plan(Integer.MAX_VALUE - 1, 0, 0));
        Due.fail("plan(-2147483648, 0, 0)", Due.ARGUMENT, () -> x.plan(Integer.MIN_VALUE, 0, 0));
        Due.be("plan(2147483647, 1, 1)", x.plan(Integer.MAX_VALUE, 1, 1), 6);
        Due.be("look(16)", x.look(16), 6);
        x.reset();
        Due.be("look(16) behind reset()", x.look(16), 6);
        // What went does not count any more: only what waits holds a number back.
        PadConsole y = new PadConsole(0);
        Due.idle(y);
        y.plan(1, 0, 1);
        y.picture(1);
        Due.be("look(16) behind the picture", y.look(16), 0);
        Due.be("plan(0, 0, 2), with none that waits", y.plan(0, 0, 2), 1);
        Due.fail("plan(-1, 0, 2)", Due.ARGUMENT, () -> y.plan(-1, 0, 2));
    }

    /** "whose number is not above how many are done (also those whose picture was done when they were told)". */
    private static void promise14PlansOfPicturesThatAreDone() {
        for (int number = 0; number <= 4; number++) {
            PadConsole x = new PadConsole(0);
            Due.idle(x);
            x.picture(2);
            Due.be("plan(" + number + ", 0, 9) with 2 done", x.plan(number, 0, 9), 1);
            Due.be("in(0xdc) at once", x.in(0xdc), 255);
            x.step(19 * 262 - 1);
            Due.be("in(0xdc), a step ahead of the third", x.in(0xdc), 255);
            Due.be("look(16), a step ahead of the third", x.look(16), 1);
            x.step(1);
            Due.be("in(0xdc) with the third done, number " + number, x.in(0xdc), number <= 3 ? 246 : 255);
            Due.be("look(16) with the third done, number " + number, x.look(16), number <= 3 ? 0 : 1);
            x.picture(1);
            Due.be("in(0xdc) with the fourth done", x.in(0xdc), 246);
        }
    }

    /** Several of one picture are carried out "in the order in which they were told": the last one holds. */
    private static void promise14TheLatestOfOnePicture() {
        PadConsole x = new PadConsole(0);
        Due.idle(x);
        x.press(0, 63);
        x.plan(1, 0, 1);
        x.plan(1, 1, 2);
        x.plan(1, 0, 4);
        x.plan(2, 0, 0);
        x.picture(1);
        Due.be("in(0xdc) behind three plans", x.in(0xdc), 0xff - 4 - 128);
        Due.be("look(16)", x.look(16), 1);
        x.press(0, 32);
        Due.be("in(0xdc) behind press()", x.in(0xdc), 0xff - 32 - 128);
        x.picture(1);
        Due.be("in(0xdc) behind the next plan", x.in(0xdc), 0xff - 128);
    }

    /** "PLANS, 256 at most": as many as went may come again, over and over. */
    private static void promise14RoomComesBack() {
        PadConsole x = new PadConsole(0);
        Due.idle(x);
        for (int i = 0; i < 255; i++) {
            x.plan(i < 100 ? 1 : 2, i & 1, i & 63);
        }
        Due.be("plan 256", x.plan(2, 0, 33), 256);
        Due.fail("plan 257", Due.STATE, () -> x.plan(2, 0, 0));
        x.picture(1);
        Due.be("look(16) behind the first picture", x.look(16), 156);
        Due.be("in(0xdc), by the plans 98 and 99", x.in(0xdc), 255 & ~(98 & 63 | (99 & 3) << 6));
        for (int i = 0; i < 100; i++) {
            Due.be("plan " + (157 + i), x.plan(3, i & 1, i & 63), 157 + i);
        }
        Due.fail("plan 257 again", Due.STATE, () -> x.plan(3, 0, 0));
        x.picture(1);
        Due.be("look(16) behind the second picture", x.look(16), 100);
        Due.be("in(0xdc), by the plan 255 and the one told last of pad 1", x.in(0xdc), 255 & ~(33 | (253 & 3) << 6));
        x.picture(1);
        Due.be("look(16) behind the third picture", x.look(16), 0);
        Due.be("in(0xdc), by the last two", x.in(0xdc), 255 & ~(98 & 63 | (99 & 3) << 6));
    }

    /** Only "plans at the front" are carried out; the rest waits with its own number. */
    private static void promise14AFrontThatWaitsHoldsTheOthers() {
        PadConsole x = new PadConsole(0);
        Due.idle(x);
        x.plan(1, 0, 1);
        x.plan(3, 0, 2);
        x.plan(3, 1, 3);
        int[] waits = {2, 2, 0, 0};
        int[] pads = {254, 254, 0x3d, 0x3d};
        for (int i = 0; i < 4; i++) {
            x.picture(1);
            Due.be("look(16) behind picture " + (i + 1), x.look(16), waits[i]);
            Due.be("in(0xdc) behind picture " + (i + 1), x.in(0xdc), pads[i]);
        }
    }

    /** Plans stay with reset(), load() and an error, and come back with restore(), each with its pad and buttons. */
    private static void promise14PlansStay() {
        PadConsole x = new PadConsole(0);
        x.plan(2, 1, 1);
        x.plan(3, 0, 21);
        x.reset();
        Due.be("load() of nothing", x.load(), 1);
        Due.tape(x, 8192, 0);
        Due.be("load()", x.load(), 0);
        Due.idle(x);
        x.picture(1);
        Due.be("in(0xdc) behind the first picture", x.in(0xdc), 255);
        x.save();
        x.picture(1);
        Due.be("in(0xdc) behind the second picture", x.in(0xdc), 255 - 64);
        x.picture(1);
        Due.be("in(0xdc) behind the third picture", x.in(0xdc), 255 - 64 - 21);
        Due.be("look(16) behind the third picture", x.look(16), 0);
        x.plan(0, 0, 63);
        x.restore();
        Due.be("look(16) behind restore()", x.look(16), 2);
        Due.be("in(0xdc) behind restore()", x.in(0xdc), 255);
        Due.fail("plan(2, 0, 0) behind restore()", Due.ARGUMENT, () -> x.plan(2, 0, 0));
        x.picture(2);
        Due.be("in(0xdc) behind the third picture again", x.in(0xdc), 255 - 64 - 21);
    }

    /** "An address is a break point, or not any more: how many there are." "when there are 8 others". */
    private static void promise17ZeroToEightBreakPoints() {
        PadConsole x = new PadConsole(0);
        Due.be("look(6) at first", x.look(6), 0);
        Due.be("stop of none", x.stop(9, false), 0);
        for (int i = 0; i < 8; i++) {
            Due.be("stop " + i, x.stop(0xc100 + i, true), i + 1);
        }
        for (int i = 0; i < 8; i++) {
            Due.be("stop of the eight again, with 7 others", x.stop(0xc100 + i, true), 8);
        }
        Due.fail("stop of a ninth, with 8 others", Due.STATE, () -> x.stop(0xc108, true));
        Due.be("stop of one of the eight, not any more", x.stop(0xc103, false), 7);
        Due.be("stop of it again, not any more", x.stop(0xc103, false), 7);
        Due.be("stop of the ninth, with 7 others", x.stop(0xc108, true), 8);
        Due.fail("stop of the one that went, with 8 others", Due.STATE, () -> x.stop(0xc103, true));
        x.set(19, 0xc0fe);
        int[] ends = {0xc100, 0xc101, 0xc102, 0xc104, 0xc105, 0xc106, 0xc107, 0xc108};
        for (int end : ends) {
            x.step(100);
            Due.be("register(19), the next break point", x.register(19), end);
        }
        for (int i = 0; i < 8; i++) {
            Due.be("stop, one less", x.stop(ends[7 - i], false), 7 - i);
        }
        Due.be("step(100) without any", x.step(100), 100);
    }

    /** "when it is no word": 0 and 65535 are. */
    private static void promise17FirstAndLastAddress() {
        PadConsole x = new PadConsole(0);
        Due.tape(x, 8192, 0);
        x.load();
        Due.be("stop(0, true)", x.stop(0, true), 1);
        Due.be("stop(65535, true)", x.stop(65535, true), 2);
        x.set(19, 0xfff0);
        Due.be("step(100) to 65535", x.step(100), 15);
        Due.be("register(19)", x.register(19), 65535);
        Due.be("step(100) to 0", x.step(100), 1);
        Due.be("register(19)", x.register(19), 0);
        Due.be("stop(65535, false)", x.stop(65535, false), 1);
        Due.be("stop(0, false)", x.stop(0, false), 0);
    }

    /** "a run ends ahead of a step at whose beginning PC is one (not ahead of its first one)". */
    private static void promise17NotAheadOfTheFirstStep() {
        PadConsole x = new PadConsole(0);
        Due.idle(x);
        x.stop(0xc000, true);
        Due.be("step(1) at a break point", x.step(1), 1);
        Due.be("step(2) at a break point that comes again", x.step(2), 1);
        Due.be("step(20000) at a break point that comes again", x.step(20000), 1);
        Due.be("picture(3) at a break point that comes again", x.picture(3), 1);
        // A byte of an instruction that is not its first is no beginning of a step.
        x.stop(0xc000, false);
        x.stop(0xc001, true);
        Due.be("step(50) over a break point inside an instruction", x.step(50), 50);
        // A break point where a pause goes.
        x.stop(0x66, true);
        x.pause();
        Due.be("step(50) with a pause", x.step(50), 1);
        Due.be("register(19)", x.register(19), 0x66);
        // A repeating instruction begins anew with each step.
        PadConsole y = new PadConsole(0);
        Due.code(y, 0xed, 0xb0);
        y.set(6, 0xd0);
        y.set(4, 0xd8);
        y.set(3, 5);
        y.stop(0xc000, true);
        Due.be("step(50) of ldir at a break point", y.step(50), 1);
        Due.be("register(3)", y.register(3), 4);
    }

    /** Break points stay with reset() and load(), and come back with restore(). */
    private static void promise17TheyStay() {
        PadConsole x = new PadConsole(0);
        x.stop(0xc002, true);
        x.reset();
        x.set(19, 0xc000);
        Due.be("step(9) behind reset()", x.step(9), 2);
        Due.tape(x, 8192, 0);
        x.load();
        x.set(19, 0xc000);
        Due.be("step(9) behind load()", x.step(9), 2);
        x.save();
        x.stop(0xc002, false);
        x.stop(0xc001, true);
        x.stop(0xc003, true);
        x.restore();
        Due.be("look(6) behind restore()", x.look(6), 1);
        x.set(19, 0xc000);
        Due.be("step(9) behind restore()", x.step(9), 2);
        x.step(9);
        Due.be("register(19), with nothing at 0xc003", x.register(19), 0xc00b);
    }

    /** "All is saved.": the latest one counts. */
    private static void promise18SavedAgain() {
        PadConsole x = new PadConsole(0);
        Due.be("look(15) at first", x.look(15), 0);
        Due.code(x, 0x3c, 0x3c, 0x3c, 0x3c);
        x.save();
        Due.be("look(15) behind save()", x.look(15), 1);
        x.step(1);
        x.save();
        x.step(1);
        x.restore();
        Due.be("register(0), saved the second time", x.register(0), 1);
        x.step(1);
        x.save();
        x.restore();
        Due.be("register(0), saved and brought back at once", x.register(0), 2);
        Due.be("look(1)", x.look(1), 2);
    }

    /** "What was saved is there again (it stays saved)." */
    private static void promise19RestoreMoreThanOnce() {
        PadConsole x = Due.busy(0);
        x.restore();
        long beats = x.look(0);
        int a = x.register(0);
        Due.be("look(1), as it was saved", x.look(1), 1000);
        Due.be("look(12), as it was saved", x.look(12), 0);
        Due.be("chip(14), as it was saved", x.chip(14), 0);
        for (int i = 0; i < 3; i++) {
            x.step(10 + i);
            x.reset();
            x.poke(0xd003, 1);
            x.stop(0x1234, false);
            x.restore();
            Due.be("look(0) behind restore()", x.look(0), beats);
            Due.be("register(0) behind restore()", x.register(0), a);
            Due.be("look(6) behind restore()", x.look(6), 2);
            Due.be("look(15) behind restore()", x.look(15), 1);
        }
        PadConsole y = Due.busy(0);
        y.restore();
        // The trace does not come back: both fill it anew.
        x.step(40);
        y.step(40);
        Due.same("two that were brought back", x, y);
    }

    /** "but the tape, the cartridge, what was saved, the trace, and TEXT". */
    private static void promise19WhatDoesNotComeBack() {
        PadConsole x = new PadConsole(0);
        Due.code(x, 0, 0, 0, 0);
        x.feed(2, 0x0201, 0, 0);
        x.tell(0xc000);
        x.step(1);
        x.save();
        x.step(2);
        x.feed(3, 0x050403, 0, 0);
        x.poke(0xc009, 0xfb);
        x.tell(0xc009);
        x.restore();
        Due.be("look(5), the tape", x.look(5), 5);
        Due.be("look(18), TEXT", x.look(18), 2);
        Due.be("text(0), TEXT", x.text(0), 0x6965);
        Due.be("trace(0)", x.trace(0), 0xc002);
        Due.be("trace(2)", x.trace(2), 0xc000);
        Due.be("look(1), what was counted", x.look(1), 1);
        Due.be("peek(0xc009), RAM", x.peek(0xc009), 0);
        x.grow(8192);
        x.load();
        for (int i = 0; i < 6; i++) {
            Due.be("peek(" + i + ") of the tape", x.peek(i), i % 5 + 1);
        }
    }

    /** "if no cartridge was loaded since." An error is no cartridge. */
    private static void promise19ACartridgeForgets() {
        PadConsole x = new PadConsole(0);
        x.save();
        Due.be("load() of nothing", x.load(), 1);
        x.restore();
        Due.tape(x, 8193, 0);
        Due.be("load() of 8193 bytes", x.load(), 2);
        Due.be("look(15)", x.look(15), 1);
        x.restore();
        Due.tape(x, 8192, 0);
        Due.be("load() of 8192 bytes", x.load(), 0);
        Due.be("look(15)", x.look(15), 0);
        Due.fail("restore()", Due.STATE, () -> x.restore());
        x.save();
        x.poke(0xc000, 1);
        x.restore();
        Due.be("peek(0xc000), saved anew", x.peek(0xc000), 0);
    }

    /** "The TRACE are the latest 32 PCs"; "-1 when there was none, or k is not 0 .. 31". */
    private static void promise36ThirtyTwoSteps() {
        int[] steps = {0, 1, 2, 31, 32, 33, 64, 65};
        for (int n : steps) {
            PadConsole x = new PadConsole(0);
            x.set(19, 0xc000);
            if (n > 0) {
                x.step(n);
            }
            for (int k = -1; k < 34; k++) {
                boolean is = k >= 0 && k < 32 && k < n;
                Due.be("trace(" + k + ") behind " + n + " steps", x.trace(k), is ? 0xc000 + n - 1 - k : -1);
            }
            Due.be("trace(-2147483648)", x.trace(Integer.MIN_VALUE), -1);
            Due.be("trace(2147483647)", x.trace(Integer.MAX_VALUE), -1);
        }
    }

    /** A step that halts, a prefix alone, a pause and what the video chip asks for: all begin with a PC. */
    private static void promise36EveryKindOfStep() {
        PadConsole x = new PadConsole(0);
        Due.tape(x, 8192, 0);
        x.load();
        Due.code(x, 0xdd, 0xdd, 0x23, 0x76);
        x.step(4);
        int[] due = {0xc004, 0xc003, 0xc001, 0xc000};
        for (int k = 0; k < 4; k++) {
            Due.be("trace(" + k + ")", x.trace(k), due[k]);
        }
        x.pause();
        x.step(2);
        Due.be("trace(1) of a pause", x.trace(1), 0xc004);
        Due.be("trace(0) behind a pause", x.trace(0), 0x66);
        x.set(19, 0xffff);
        x.step(2);
        Due.be("trace(1) at the last address", x.trace(1), 0xffff);
        Due.be("trace(0) at address 0", x.trace(0), 0);
        x.reset();
        Due.be("trace(0) behind reset()", x.trace(0), 0);
    }

    /** "(0, 1, 2, 4: since the beginning.)" */
    private static void promise37CountsSinceTheBeginning() {
        PadConsole x = new PadConsole(0);
        Due.idle(x);
        x.picture(1);
        x.hear();
        x.mix();
        x.reset();
        Due.tape(x, 8192, 0);
        x.load();
        Due.be("look(0)", x.look(0), 12 * 19 * 262);
        Due.be("look(1)", x.look(1), 19 * 262);
        Due.be("look(2)", x.look(2), 1);
        Due.be("look(3)", x.look(3), 12 * 19 * 262 / 16 - 1);
        Due.be("look(4)", x.look(4), 12 * 19 * 262 / 16);
        Due.be("look(17)", x.look(17), 12 * 19 * 262 / 81 - 1);
        x.save();
        x.step(5);
        Due.be("look(1)", x.look(1), 19 * 262 + 5);
        x.restore();
        Due.be("look(1) behind restore()", x.look(1), 19 * 262);
        Due.be("look(0) behind restore()", x.look(0), 12 * 19 * 262);
    }

    private static void promise37TapeTextAndStops() {
        PadConsole x = new PadConsole(0);
        Due.be("look(0)", x.look(0), 0);
        Due.be("look(18) at first", x.look(18), 0);
        x.feed(24, 0, 0, 0);
        Due.be("look(5)", x.look(5), 24);
        x.grow(262656);
        Due.be("look(5) of a full tape", x.look(5), 262656);
        x.load();
        Due.be("look(5) behind load()", x.look(5), 0);
        Due.be("look(7)", x.look(7), 262144);
        Due.be("look(18) behind load()", x.look(18), 0);
        x.poke(0xc000, 0xf3);
        x.tell(0xc000);
        Due.be("look(18) of di", x.look(18), 2);
        for (int i = 0; i < 8; i++) {
            x.stop(i, true);
            Due.be("look(6)", x.look(6), i + 1);
        }
        for (int i = 0; i < 256; i++) {
            x.plan(9, 0, 0);
        }
        Due.be("look(16)", x.look(16), 256);
        Due.be("look(8)", x.look(8), 0);
        Due.be("look(14)", x.look(14), 255);
        x.out(0x3f, 0);
        Due.be("look(14)", x.look(14), 0);
    }
}
