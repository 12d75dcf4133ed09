import java.util.Arrays;
import java.util.NoSuchElementException;

/**
 * A small game console, as ../shared/DOC.md promises it: this class is its desk, the classes inside are its parts.
 * Each part keeps what it has in rows whose places are the numbers by which the document asks for them, so that
 * telling is a look into the row, and saving a copy of it.
 */
public final class PadConsole {
    private static final int MOST_STEPS = 20000;
    private static final int MOST_PICTURES = 3;
    // Three pictures of 313 lines take some 53,600 steps at the most: no run comes near this.
    private static final int ENOUGH_STEPS = 1000000;

    private final boolean handy;
    private final Memory memory;
    private final Video screen;
    private final Painter painter;
    private final Sound tones;
    private final Waves synth;
    private final Ports ports;
    private final Processor processor;
    private final Clock clock;
    private final Desk desk;
    private final Teller teller;
    private boolean saved;

    public PadConsole(int kind) {
        handy = kind == 2;
        memory = new Memory();
        screen = new Video(handy, kind == 1 ? 313 : 262);
        painter = new Painter(screen, handy);
        tones = new Sound();
        synth = new Waves();
        ports = new Ports(handy, screen, tones, synth);
        processor = new Processor(memory, ports);
        clock = new Clock(tones, synth);
        desk = new Desk();
        teller = new Teller(memory);
    }

    public int feed(int n, long a, long b, long c) throws IllegalArgumentException, IllegalStateException {
        if (n < 1 || n > 24) {
            throw new IllegalArgumentException("a call feeds 1 to 24 bytes");
        }
        if (memory.tapeLength + n > Memory.TAPE_SIZE) {
            throw new IllegalStateException("the tape is full");
        }
        for (int i = 0; i < n; i++) {
            long eight = i < 8 ? a : i < 16 ? b : c;
            memory.addToTape((int) (eight >>> 8 * (i & 7)) & 255);
        }
        return memory.tapeLength;
    }

    public int grow(int n) throws IllegalArgumentException, IllegalStateException {
        int had = memory.tapeLength;
        if (n < had || n > Memory.TAPE_SIZE) {
            throw new IllegalArgumentException("the tape can't have that length");
        }
        if (had == 0) {
            throw new IllegalStateException("the tape is empty");
        }
        memory.repeatTape(n);
        return had;
    }

    public void patch(int place, long v) throws IllegalArgumentException {
        if (place < 0 || place > memory.tapeLength - 8) {
            throw new IllegalArgumentException("the tape has no eight bytes there");
        }
        memory.changeTape(place, v);
    }

    public int load() {
        int error = memory.takeTape();
        if (error == 0) {
            memory.clearRam();
            clearAll();
            saved = false;
        }
        return error;
    }

    public int card(int what) throws IllegalArgumentException {
        if (what < 0 || what > 7) {
            throw new IllegalArgumentException("a cartridge has no such number");
        }
        return memory.aboutCard(what);
    }

    public int step(int n) throws IllegalArgumentException {
        if (n < 1 || n > MOST_STEPS) {
            throw new IllegalArgumentException("a call makes 1 to 20000 steps");
        }
        // A step ends no more than one picture, so this many pictures never end the run.
        return run(n, n + 1);
    }

    public int picture(int n) throws IllegalArgumentException {
        if (n < 1 || n > MOST_PICTURES) {
            throw new IllegalArgumentException("a call makes 1 to 3 pictures");
        }
        return run(ENOUGH_STEPS, n);
    }

    public void reset() {
        clearAll();
    }

    public boolean pause() {
        if (!handy) {
            processor.askForPause();
        }
        return !handy;
    }

    public void press(int pad, int buttons) throws IllegalArgumentException {
        if (!Ports.canPress(pad, buttons)) {
            throw new IllegalArgumentException("no such pad or buttons");
        }
        ports.holdButtons(pad, buttons);
    }

    public void start(boolean pressed) {
        ports.holdStart(pressed);
    }

    public void line(int k, boolean up) throws IllegalArgumentException {
        if (k < 0 || k > 1) {
            throw new IllegalArgumentException("there are the lines 0 and 1");
        }
        ports.moveLine(k, up);
    }

    public int plan(int number, int pad, int buttons) throws IllegalArgumentException, IllegalStateException {
        if (number < desk.leastPlan() || !Ports.canPress(pad, buttons)) {
            throw new IllegalArgumentException("plans go on in order, with a pad and its buttons");
        }
        if (desk.plansWaiting() >= Desk.MOST_PLANS) {
            throw new IllegalStateException("256 plans wait");
        }
        return desk.addPlan(number, pad, buttons);
    }

    public int tell(int address) {
        return teller.write(address);
    }

    public long text(int k) throws NoSuchElementException {
        if (k < 0 || k >= teller.length) {
            throw new NoSuchElementException("the text has no such sign");
        }
        return teller.eightFrom(k);
    }

    public int stop(int address, boolean is) throws IllegalArgumentException, IllegalStateException {
        if (address < 0 || address > 0xffff) {
            throw new IllegalArgumentException("an address is a word");
        }
        if (desk.stopsBeside(address) >= Desk.MOST_STOPS) {
            throw new IllegalStateException("there are 8 other break points");
        }
        return desk.changeStop(address, is);
    }

    public void save() {
        memory.keep();
        screen.keep();
        painter.keep();
        tones.keep();
        synth.keep();
        ports.keep();
        processor.keep();
        clock.keep();
        desk.keep();
        saved = true;
    }

    public void restore() throws IllegalStateException {
        if (!saved) {
            throw new IllegalStateException("nothing is saved");
        }
        memory.bringBack();
        screen.bringBack();
        painter.bringBack();
        tones.bringBack();
        synth.bringBack();
        ports.bringBack();
        processor.bringBack();
        clock.bringBack();
        desk.bringBack();
    }

    public int register(int k) throws IllegalArgumentException {
        if (k < 0 || k > Processor.HALTS) {
            throw new IllegalArgumentException("there is no such register");
        }
        return processor.value(k);
    }

    public void set(int k, int v) throws IllegalArgumentException {
        if (k < 0 || k > Processor.MODE) {
            throw new IllegalArgumentException("there is no such register");
        }
        processor.change(k, v);
    }

    public int peek(int address) {
        return memory.read(address & 0xffff);
    }

    public void poke(int address, int v) {
        memory.write(address & 0xffff, v & 255);
    }

    public int in(int port) {
        return ports.read(port & 255);
    }

    public void out(int port, int v) {
        ports.write(port & 255, v & 255);
    }

    public int battery(int k) throws NoSuchElementException {
        if (k < 0 || k >= Memory.BATTERY_SIZE) {
            throw new NoSuchElementException("the battery has no such byte");
        }
        return memory.batteryByte(k);
    }

    public void wipe() {
        memory.clearBattery();
    }

    public long video(int place) {
        return screen.eightFrom(place);
    }

    public int chip(int what) throws IllegalArgumentException {
        if (!Video.has(what)) {
            throw new IllegalArgumentException("the video chip has no such number");
        }
        return screen.value(what);
    }

    public int dot(int x, int y) throws NoSuchElementException {
        if (x < 0 || x >= painter.width() || y < 0 || y >= painter.height()) {
            throw new NoSuchElementException("the picture has no such dot");
        }
        return painter.dotAt(x, y);
    }

    public int row(int y) throws NoSuchElementException {
        if (y < 0 || y >= painter.height()) {
            throw new NoSuchElementException("the picture has no such line");
        }
        return painter.sumOfLine(y);
    }

    public long hear() throws NoSuchElementException {
        if (clock.samples.size() == 0) {
            throw new NoSuchElementException("no sample waits");
        }
        return clock.samples.takeFirst();
    }

    public long mix() throws NoSuchElementException {
        if (clock.mixes.size() == 0) {
            throw new NoSuchElementException("no mix waits");
        }
        return clock.mixes.takeFirst();
    }

    public int wave(int what) throws IllegalArgumentException {
        if (!Waves.has(what)) {
            throw new IllegalArgumentException("the waves have no such number");
        }
        return synth.value(what);
    }

    public int sound(int what) throws IllegalArgumentException {
        if (what < 0 || what > Sound.STEREO) {
            throw new IllegalArgumentException("the sound chip has no such number");
        }
        return tones.value(what);
    }

    public int trace(int k) {
        return desk.stepBack(k);
    }

    public long look(int what) throws IllegalArgumentException {
        if (what < 0 || what > 18) {
            throw new IllegalArgumentException("there is nothing to look at");
        }
        switch (what) {
            case 0: return clock.count(Clock.BEATS);
            case 1: return clock.count(Clock.STEPS);
            case 2: return clock.count(Clock.PICTURES);
            case 3: return clock.samples.size();
            case 4: return clock.count(Clock.SAMPLES);
            case 5: return memory.tapeLength;
            case 6: return desk.stopCount();
            case 7: return memory.cardSize();
            case 8: return memory.page(Memory.K);
            case 9: case 10: case 11: return memory.page(what - 9);
            case 12: return processor.value(Processor.PAUSE);
            case 13: return ports.value(Ports.H_LATCH);
            case 14: return ports.value(Ports.W);
            case 15: return saved ? 1 : 0;
            case 16: return desk.plansWaiting();
            case 17: return clock.mixes.size();
            default: return teller.length;
        }
    }

    private void clearAll() {
        memory.clearPages();
        screen.clear();
        tones.clear();
        synth.clear();
        ports.clear();
        processor.clear();
    }

    /** Steps till so many are made, so many pictures more are done, or a break point is reached: how many. */
    private int run(int steps, int pictures) {
        long lastPicture = clock.count(Clock.PICTURES) + pictures;
        int done = 0;
        while (done < steps && clock.count(Clock.PICTURES) < lastPicture) {
            int pc = processor.value(Processor.PC);
            if (done > 0 && desk.isStop(pc)) {
                break;
            }
            desk.noteStep(pc);
            int beats = processor.answerCalls(screen.asks());
            if (beats == 0) {
                beats = processor.carryOn();
            }
            if (screen.passes(beats)) {
                endLine();
            }
            clock.pass(beats);
            done++;
        }
        return done;
    }

    private void endLine() {
        if (screen.held(Video.LINE) < screen.height()) {
            painter.draw();
        }
        if (screen.goesToNextLine()) {
            clock.countPicture();
            desk.carryOutPlans(clock.count(Clock.PICTURES), ports);
        }
    }

    /** The cartridge with its pages, RAM and battery, and the tape that the next cartridge comes from. */
    private static final class Memory {
        static final int TAPE_SIZE = 262656;
        static final int BATTERY_SIZE = 32768;
        static final int K = 3;
        private static final int BANK = 16384;
        private static final int RAM_SIZE = 8192;
        private static final int[] HEADER_SIGNS = {84, 77, 82, 32, 83, 69, 71, 65};
        private static final int[] HEADER_PLACES = {0x7ff0, 0x3ff0, 0x1ff0};

        // load() changes these two rows with each other, so that no byte has to be carried.
        private int[] tape = new int[TAPE_SIZE];
        private int[] rom = new int[TAPE_SIZE];
        int tapeLength;
        private int base;
        private int size;
        private int banks;
        private int paging;
        private int header = -1;
        private final int[] ram = new int[RAM_SIZE];
        private final int[] ramKept = new int[RAM_SIZE];
        private final int[] charged = new int[BATTERY_SIZE];
        private final int[] chargedKept = new int[BATTERY_SIZE];
        private final int[] pages = {0, 1, 2, 0};
        private final int[] pagesKept = new int[4];

        void addToTape(int v) {
            if (tapeLength < TAPE_SIZE) {
                tape[tapeLength] = v;
                tapeLength++;
            }
        }

        void repeatTape(int n) {
            int had = tapeLength;
            int end = Math.min(n, TAPE_SIZE);
            for (int i = had; i < end && had > 0; i++) {
                tape[i] = tape[i - had];
            }
            tapeLength = Math.max(had, end);
        }

        void changeTape(int place, long v) {
            for (int i = 0; i < 8 && place >= 0 && place + i < tapeLength; i++) {
                tape[place + i] = (int) (v >>> 8 * i) & 255;
            }
        }

        /** The tape becomes the cartridge: 0, or the number of its error. */
        int takeTape() {
            int skipped = tapeLength % BANK == 512 ? 512 : 0;
            int left = tapeLength - skipped;
            tapeLength = 0;
            if (left < 8192) {
                return 1;
            }
            if (left % 8192 != 0) {
                return 2;
            }
            int[] old = rom;
            rom = tape;
            tape = old;
            base = skipped;
            size = left;
            banks = (left + BANK - 1) / BANK;
            header = findHeader();
            paging = findPaging();
            return 0;
        }

        private int findHeader() {
            for (int place : HEADER_PLACES) {
                boolean same = place + 16 <= size;
                for (int i = 0; i < 8 && same; i++) {
                    same = romByte(place + i) == HEADER_SIGNS[i];
                }
                if (same) {
                    return place;
                }
            }
            return -1;
        }

        private int findPaging() {
            if (size <= 49152) {
                return 0;
            }
            if (romWord(0x7fe6) + romWord(0x7fe8) == 65536) {
                return 2;
            }
            return header < 0 ? 3 : 1;
        }

        private int romByte(int place) {
            return place >= 0 && place < size ? rom[base + place] : 255;
        }

        private int romWord(int place) {
            return romByte(place) + 256 * romByte(place + 1);
        }

        int aboutCard(int what) {
            if (what >= 3 && header < 0) {
                return 0;
            }
            switch (what) {
                case 0: return paging;
                case 1: return banks;
                case 2: return header;
                case 3: return decimal(12) + 100 * decimal(13) + 10000 * (romByte(header + 14) >> 4);
                case 4: return romByte(header + 15) >> 4;
                case 5: return romByte(header + 15) & 15;
                case 6: return romWord(header + 10);
                default: return sumOfCard();
            }
        }

        private int decimal(int place) {
            int b = romByte(header + place);
            return 10 * (b >> 4) + (b & 15);
        }

        private int sumOfCard() {
            int code = romByte(header + 15) & 15;
            int sum = 0;
            for (int i = 0; i < header; i++) {
                sum += romByte(i);
            }
            if (code >= 14 || code <= 2) {
                for (int i = 0x8000; i < size; i++) {
                    sum += romByte(i);
                }
            }
            return sum & 0xffff;
        }

        int cardSize() {
            return size;
        }

        int page(int k) {
            return pages[k & 3];
        }

        int read(int address) {
            int a = address & 0xffff;
            if (a >= 0xc000) {
                return ram[a & 0x1fff];
            }
            int place = a;
            if (paging != 0 && banks > 0) {
                if (a >= 0x8000 && batteryIsIn()) {
                    return charged[batteryPlace(a)];
                }
                int third = a >> 14;
                boolean fixed = paging == 3 && third < 2;
                int bank = fixed ? third : pages[third];
                if (paging == 1 && a < 0x400) {
                    bank = 0;
                }
                place = bank % banks * BANK + (a & 0x3fff);
            }
            return place < size ? rom[base + place] : 255;
        }

        void write(int address, int v) {
            int a = address & 0xffff;
            if (a >= 0xc000) {
                ram[a & 0x1fff] = v;
            }
            if (paging == 1) {
                if (a >= 0xfffc) {
                    pages[a == 0xfffc ? K : a - 0xfffd] = v;
                } else if (a >= 0x8000 && a < 0xc000 && batteryIsIn()) {
                    charged[batteryPlace(a)] = v;
                }
            } else if (paging == 2 && (a == 0 || a == 0x4000 || a == 0x8000)) {
                pages[a >> 14] = v;
            } else if (paging == 3 && a == 0xa000) {
                pages[2] = v;
            }
        }

        private boolean batteryIsIn() {
            return paging == 1 && (pages[K] & 8) != 0;
        }

        private int batteryPlace(int a) {
            return (a & 0x3fff) + BANK * (pages[K] >> 2 & 1);
        }

        int batteryByte(int k) {
            return charged[k & 0x7fff];
        }

        void clearBattery() {
            Arrays.fill(charged, 0);
        }

        void clearRam() {
            Arrays.fill(ram, 0);
        }

        void clearPages() {
            pages[0] = 0;
            pages[1] = 1;
            pages[2] = paging == 2 ? 0 : 2;
            pages[K] = 0;
        }

        void keep() {
            System.arraycopy(ram, 0, ramKept, 0, RAM_SIZE);
            System.arraycopy(charged, 0, chargedKept, 0, BATTERY_SIZE);
            System.arraycopy(pages, 0, pagesKept, 0, 4);
        }

        void bringBack() {
            System.arraycopy(ramKept, 0, ram, 0, RAM_SIZE);
            System.arraycopy(chargedKept, 0, charged, 0, BATTERY_SIZE);
            System.arraycopy(pagesKept, 0, pages, 0, 4);
        }
    }

    /** The processor: its row holds the registers by the numbers of register(), and two places more. */
    private static final class Processor {
        static final int PC = 19;
        static final int MODE = 25;
        static final int HALTS = 26;
        static final int PAUSE = 27;
        // 1 behind an EI and a prefix alone: the next step is neither broken off by a pause nor by the video chip.
        private static final int CLOSED = 28;
        private static final int PLACES = 29;
        private static final int A = 0;
        private static final int F = 1;
        private static final int B = 2;
        private static final int C = 3;
        private static final int D = 4;
        private static final int H = 6;
        private static final int L = 7;
        private static final int IX = 16;
        private static final int IY = 17;
        private static final int SP = 18;
        private static final int WZ = 20;
        private static final int I = 21;
        private static final int R = 22;
        private static final int IFF1 = 23;
        private static final int IFF2 = 24;
        private static final int FLAG_S = 128;
        private static final int FLAG_Z = 64;
        private static final int FLAG_H = 16;
        private static final int FLAG_P = 4;
        private static final int FLAG_N = 2;
        private static final int FLAG_C = 1;
        private static final int FLAGS_YX = 0x28;
        private static final int[] CONDITIONS = {FLAG_Z, FLAG_C, FLAG_P, FLAG_S};

        private final Memory memory;
        private final Ports ports;
        private final int[] r = new int[PLACES];
        private final int[] kept = new int[PLACES];
        // Which register stands for HL in this instruction (H, IX or IY), and where M is.
        private int j = H;
        private int place;

        Processor(Memory memory, Ports ports) {
            this.memory = memory;
            this.ports = ports;
            r[SP] = 0xdff0;
        }

        void clear() {
            Arrays.fill(r, 0);
            r[SP] = 0xdff0;
        }

        void keep() {
            System.arraycopy(r, 0, kept, 0, PLACES);
        }

        void bringBack() {
            System.arraycopy(kept, 0, r, 0, PLACES);
        }

        int value(int k) {
            return k >= 0 && k < PLACES ? r[k] : 0;
        }

        void change(int k, int v) {
            if (k < 0 || k > MODE) {
                return;
            }
            if (k == MODE) {
                r[k] = Math.min(2, v & 3);
            } else if (k >= IFF1) {
                r[k] = v & 1;
            } else {
                r[k] = k >= IX && k <= WZ ? v & 0xffff : v & 255;
            }
        }

        void askForPause() {
            r[PAUSE] = 1;
        }

        /** What a pause, or the video chip, does instead of an instruction: its beats, 0 if neither comes. */
        int answerCalls(boolean asks) {
            boolean open = r[CLOSED] == 0;
            r[CLOSED] = 0;
            if (open && r[PAUSE] == 1) {
                r[PAUSE] = 0;
                r[IFF1] = 0;
                breakOff(0x66);
                return 11;
            }
            if (!open || !asks || r[IFF1] == 0) {
                return 0;
            }
            r[IFF1] = 0;
            r[IFF2] = 0;
            if (r[MODE] == 2) {
                breakOff(readWord(r[I] << 8 | 255));
                return 19;
            }
            breakOff(0x38);
            return 13;
        }

        private void breakOff(int address) {
            growR();
            r[HALTS] = 0;
            push(r[PC]);
            goTo(address);
        }

        /** A step that nothing breaks off: its beats. */
        int carryOn() {
            if (r[HALTS] == 1) {
                growR();
                return 4;
            }
            j = H;
            place = pairAt(H);
            int op = fetchOp();
            int more = 0;
            if (op == 0xdd || op == 0xfd) {
                int next = memory.read(r[PC]);
                if (next == 0xdd || next == 0xed || next == 0xfd) {
                    r[CLOSED] = 1;
                    return 4;
                }
                j = op == 0xdd ? IX : IY;
                op = fetchOp();
                if (op == 0xcb) {
                    return turnBeside();
                }
                more = takePlace(op);
            }
            if (op == 0xcb) {
                return turns(fetchOp());
            }
            if (op == 0xed) {
                op = fetchOp();
                return (op & 0xe4) == 0xa0 ? block(op) : behindEd(op);
            }
            switch (op >> 6) {
                case 0: return more + firstQuarter(op);
                case 1: return more + move(op);
                case 2: return more + doWithRegister(op);
                default: return more + ((op & 7) == 3 ? exchange(op >> 3 & 7) : lastQuarter(op));
            }
        }

        /** With a prefix: takes the byte d, if M is meant by r: how many beats come to those of the op. */
        private int takePlace(int op) {
            if (!meansPlace(op)) {
                return 4;
            }
            r[WZ] = r[j] + (byte) fetch() & 0xffff;
            place = r[WZ];
            j = H;
            return op == 0x36 ? 9 : 12;
        }

        /** Whether M is what an op without CB and ED means by r. */
        static boolean meansPlace(int op) {
            boolean left = (op & 0x38) == 0x30;
            boolean right = (op & 7) == 6;
            switch (op >> 6) {
                case 0: return left && (op & 7) >= 4 && (op & 7) <= 6;
                case 1: return left != right;
                case 2: return right;
                default: return false;
            }
        }

        private int fetch() {
            int v = memory.read(r[PC]);
            r[PC] = r[PC] + 1 & 0xffff;
            return v;
        }

        private int fetchOp() {
            growR();
            return fetch();
        }

        private int fetchWord() {
            int w = memory.read(r[PC]) | memory.read(r[PC] + 1) << 8;
            r[PC] = r[PC] + 2 & 0xffff;
            return w;
        }

        private void growR() {
            r[R] = r[R] & 128 | r[R] + 1 & 127;
        }

        private int readWord(int address) {
            return memory.read(address) | memory.read(address + 1) << 8;
        }

        private void writeWord(int address, int w) {
            memory.write(address, w & 255);
            memory.write(address + 1, w >> 8);
        }

        private void push(int w) {
            memory.write(r[SP] - 1, w >> 8);
            memory.write(r[SP] - 2, w & 255);
            r[SP] = r[SP] - 2 & 0xffff;
        }

        private int pop() {
            int w = memory.read(r[SP]) | memory.read(r[SP] + 1) << 8;
            r[SP] = r[SP] + 2 & 0xffff;
            return w;
        }

        private void goTo(int address) {
            r[PC] = address;
            r[WZ] = address;
        }

        private int pairAt(int k) {
            return r[k] << 8 | r[k + 1];
        }

        private void putPairAt(int k, int w) {
            r[k] = w >> 8 & 255;
            r[k + 1] = w & 255;
        }

        private int hl() {
            return j == H ? pairAt(H) : r[j];
        }

        private void putHl(int w) {
            if (j == H) {
                putPairAt(H, w);
            } else {
                r[j] = w & 0xffff;
            }
        }

        private int pair(int p) {
            switch (p) {
                case 0: return pairAt(B);
                case 1: return pairAt(D);
                case 2: return hl();
                default: return r[SP];
            }
        }

        private void putPair(int p, int w) {
            switch (p) {
                case 0: putPairAt(B, w); break;
                case 1: putPairAt(D, w); break;
                case 2: putHl(w); break;
                default: r[SP] = w & 0xffff; break;
            }
        }

        private int one(int k) {
            switch (k) {
                case 4: return j == H ? r[H] : r[j] >> 8;
                case 5: return j == H ? r[L] : r[j] & 255;
                case 6: return memory.read(place);
                case 7: return r[A];
                default: return r[B + (k & 3)];
            }
        }

        private void putOne(int k, int v) {
            switch (k) {
                case 4: putPairHalf(H, v); break;
                case 5: putPairHalf(L, v); break;
                case 6: memory.write(place, v); break;
                case 7: r[A] = v; break;
                default: r[B + (k & 3)] = v; break;
            }
        }

        private void putPairHalf(int k, int v) {
            if (j == H) {
                r[k] = v;
            } else {
                r[j] = k == H ? v << 8 | r[j] & 255 : r[j] & 0xff00 | v;
            }
        }

        private boolean holds(int y) {
            return ((r[F] & CONDITIONS[y >> 1 & 3]) != 0) == ((y & 1) == 1);
        }

        private static int by(int v) {
            return v & (FLAG_S | FLAGS_YX) | (v == 0 ? FLAG_Z : 0);
        }

        private static int parity(int v) {
            return (Integer.bitCount(v) & 1) == 0 ? FLAG_P : 0;
        }

        private void changeWithOther(int k) {
            int v = r[k];
            r[k] = r[k + 8];
            r[k + 8] = v;
        }

        /** The ops of x 0. */
        private int firstQuarter(int op) {
            int y = op >> 3 & 7;
            switch (op & 7) {
                case 0: return near(y);
                case 1: return (y & 1) == 0 ? loadPair(y >> 1) : addPair(y >> 1);
                case 2: return far(y);
                case 3:
                    putPair(y >> 1, pair(y >> 1) + ((y & 1) == 0 ? 1 : -1));
                    return 6;
                case 4:
                    putOne(y, oneMore(one(y)));
                    return y == 6 ? 11 : 4;
                case 5:
                    putOne(y, oneLess(one(y)));
                    return y == 6 ? 11 : 4;
                case 6:
                    putOne(y, fetch());
                    return y == 6 ? 10 : 7;
                default:
                    changeA(y);
                    return 4;
            }
        }

        private int near(int y) {
            if (y < 2) {
                if (y == 1) {
                    changeWithOther(A);
                    changeWithOther(F);
                }
                return 4;
            }
            int e = (byte) fetch();
            boolean goes = y == 3 || y > 3 && holds(y - 4);
            if (y == 2) {
                r[B] = r[B] - 1 & 255;
                goes = r[B] != 0;
            }
            if (goes) {
                goTo(r[PC] + e & 0xffff);
            }
            return (goes ? 12 : 7) + (y == 2 ? 1 : 0);
        }

        private int loadPair(int p) {
            putPair(p, fetchWord());
            return 10;
        }

        private int addPair(int p) {
            int a = hl();
            int b = pair(p);
            int sum = a + b;
            r[WZ] = a + 1 & 0xffff;
            putHl(sum);
            r[F] = r[F] & (FLAG_S | FLAG_Z | FLAG_P) | sum >> 8 & FLAGS_YX | (a ^ b ^ sum) >> 8 & FLAG_H | sum >> 16;
            return 11;
        }

        private int far(int y) {
            boolean reads = (y & 1) == 1;
            int at = y < 4 ? pair(y >> 1) : fetchWord();
            r[WZ] = at + 1 & 0xffff;
            if (y >> 1 == 2) {
                if (reads) {
                    putHl(readWord(at));
                } else {
                    writeWord(at, hl());
                }
                return 16;
            }
            if (reads) {
                r[A] = memory.read(at);
            } else {
                memory.write(at, r[A]);
                r[WZ] = r[A] << 8 | at + 1 & 255;
            }
            return y < 4 ? 7 : 13;
        }

        private int oneMore(int v) {
            int w = v + 1 & 255;
            r[F] = r[F] & FLAG_C | by(w) | ((w & 15) == 0 ? FLAG_H : 0) | (w == 0x80 ? FLAG_P : 0);
            return w;
        }

        private int oneLess(int v) {
            int w = v - 1 & 255;
            r[F] = r[F] & FLAG_C | by(w) | ((w & 15) == 15 ? FLAG_H : 0) | (w == 0x7f ? FLAG_P : 0) | FLAG_N;
            return w;
        }

        private void changeA(int y) {
            int szp = r[F] & (FLAG_S | FLAG_Z | FLAG_P);
            int carry = r[F] & FLAG_C;
            switch (y) {
                case 4:
                    adjustA();
                    return;
                case 5:
                    r[A] ^= 255;
                    r[F] = szp | carry | FLAG_H | FLAG_N | r[A] & FLAGS_YX;
                    return;
                case 6:
                    r[F] = szp | FLAG_C | r[A] & FLAGS_YX;
                    return;
                case 7:
                    r[F] = szp | (carry == 0 ? FLAG_C : FLAG_H) | r[A] & FLAGS_YX;
                    return;
                default:
                    r[A] = turn(y, r[A]);
                    r[F] = szp | r[F] & (FLAGS_YX | FLAG_C);
                    return;
            }
        }

        private void adjustA() {
            int low = r[A] & 15;
            boolean half = (r[F] & FLAG_H) != 0;
            boolean minus = (r[F] & FLAG_N) != 0;
            int carry = r[A] > 0x99 ? FLAG_C : r[F] & FLAG_C;
            int d = (low > 9 || half ? 6 : 0) + (carry != 0 ? 0x60 : 0);
            boolean halfThen = minus ? half && low < 6 : low > 9;
            int w = (minus ? r[A] - d : r[A] + d) & 255;
            r[A] = w;
            r[F] = by(w) | parity(w) | (halfThen ? FLAG_H : 0) | r[F] & FLAG_N | carry;
        }

        private int turn(int y, int v) {
            boolean left = (y & 1) == 0;
            int goesOut = left ? v >> 7 : v & 1;
            int comes;
            switch (y) {
                case 0: case 1: comes = goesOut; break;
                case 2: case 3: comes = r[F] & FLAG_C; break;
                case 5: comes = v >> 7; break;
                case 6: comes = 1; break;
                default: comes = 0; break;
            }
            int w = left ? v << 1 & 255 | comes : v >> 1 | comes << 7;
            r[F] = by(w) | parity(w) | goesOut;
            return w;
        }

        /** The ops of x 1. */
        private int move(int op) {
            if (op == 0x76) {
                r[HALTS] = 1;
                return 4;
            }
            int y = op >> 3 & 7;
            int z = op & 7;
            putOne(y, one(z));
            return y == 6 || z == 6 ? 7 : 4;
        }

        /** The ops of x 2. */
        private int doWithRegister(int op) {
            doWith(op >> 3 & 7, one(op & 7));
            return (op & 7) == 6 ? 7 : 4;
        }

        private void doWith(int y, int b) {
            switch (y) {
                case 0: r[A] = sum(r[A], b, 0); break;
                case 1: r[A] = sum(r[A], b, r[F] & FLAG_C); break;
                case 2: r[A] = difference(r[A], b, 0); break;
                case 3: r[A] = difference(r[A], b, r[F] & FLAG_C); break;
                case 4:
                    r[A] &= b;
                    r[F] = by(r[A]) | parity(r[A]) | FLAG_H;
                    break;
                case 5:
                    r[A] ^= b;
                    r[F] = by(r[A]) | parity(r[A]);
                    break;
                case 6:
                    r[A] |= b;
                    r[F] = by(r[A]) | parity(r[A]);
                    break;
                default:
                    difference(r[A], b, 0);
                    r[F] = r[F] & ~FLAGS_YX | b & FLAGS_YX;
                    break;
            }
        }

        private int sum(int a, int b, int carry) {
            int all = a + b + carry;
            int w = all & 255;
            int over = ~(a ^ b) & (a ^ w) & 0x80;
            r[F] = by(w) | (a ^ b ^ w) & FLAG_H | (over != 0 ? FLAG_P : 0) | all >> 8;
            return w;
        }

        private int difference(int a, int b, int borrow) {
            int all = a - b - borrow;
            int w = all & 255;
            int over = (a ^ b) & (a ^ w) & 0x80;
            r[F] = by(w) | (a ^ b ^ w) & FLAG_H | (over != 0 ? FLAG_P : 0) | FLAG_N | (all < 0 ? FLAG_C : 0);
            return w;
        }

        /** The ops of x 3, but for z 3 and the prefixes. */
        private int lastQuarter(int op) {
            int y = op >> 3 & 7;
            switch (op & 7) {
                case 0:
                    if (!holds(y)) {
                        return 5;
                    }
                    goTo(pop());
                    return 11;
                case 1: return (y & 1) == 0 ? popPair(y >> 1) : leave(y >> 1);
                case 2:
                    r[WZ] = fetchWord();
                    if (holds(y)) {
                        r[PC] = r[WZ];
                    }
                    return 10;
                case 4: return callIf(holds(y));
                case 5:
                    if ((y & 1) == 1) {
                        return callIf(true);
                    }
                    push(y == 6 ? pairAt(A) : pair(y >> 1));
                    return 11;
                case 6:
                    doWith(y, fetch());
                    return 7;
                default:
                    push(r[PC]);
                    goTo(8 * y);
                    return 11;
            }
        }

        private int popPair(int p) {
            int w = pop();
            if (p == 3) {
                putPairAt(A, w);
            } else {
                putPair(p, w);
            }
            return 10;
        }

        private int leave(int p) {
            switch (p) {
                case 0:
                    goTo(pop());
                    return 10;
                case 1:
                    for (int k = B; k <= L; k++) {
                        changeWithOther(k);
                    }
                    return 4;
                case 2:
                    r[PC] = hl();
                    return 4;
                default:
                    r[SP] = hl();
                    return 6;
            }
        }

        private int callIf(boolean goes) {
            int address = fetchWord();
            r[WZ] = address;
            if (!goes) {
                return 10;
            }
            push(r[PC]);
            r[PC] = address;
            return 17;
        }

        /** The ops of x 3, z 3. */
        private int exchange(int y) {
            int n;
            switch (y) {
                case 0:
                    goTo(fetchWord());
                    return 10;
                case 2:
                    n = fetch();
                    ports.write(n, r[A]);
                    r[WZ] = r[A] << 8 | n + 1 & 255;
                    return 11;
                case 3:
                    n = fetch();
                    r[WZ] = (r[A] << 8 | n) + 1 & 0xffff;
                    r[A] = ports.read(n);
                    return 11;
                case 4:
                    n = readWord(r[SP]);
                    writeWord(r[SP], hl());
                    putHl(n);
                    r[WZ] = n;
                    return 19;
                case 5:
                    n = pairAt(D);
                    putPairAt(D, pairAt(H));
                    putPairAt(H, n);
                    return 4;
                default:
                    r[IFF1] = y & 1;
                    r[IFF2] = y & 1;
                    r[CLOSED] = y & 1;
                    return 4;
            }
        }

        /** The ops behind CB. */
        private int turns(int op) {
            int z = op & 7;
            int v = one(z);
            if (op >> 6 == 1) {
                askBit(op >> 3 & 7, v, z == 6 ? r[WZ] >> 8 : v);
                return z == 6 ? 12 : 8;
            }
            putOne(z, turned(op, v));
            return z == 6 ? 15 : 8;
        }

        /** The ops behind a prefix and CB. */
        private int turnBeside() {
            r[WZ] = r[j] + (byte) fetch() & 0xffff;
            place = r[WZ];
            j = H;
            int op = fetch();
            int v = memory.read(place);
            if (op >> 6 == 1) {
                askBit(op >> 3 & 7, v, r[WZ] >> 8);
                return 20;
            }
            int w = turned(op, v);
            memory.write(place, w);
            if ((op & 7) != 6) {
                putOne(op & 7, w);
            }
            return 23;
        }

        private int turned(int op, int v) {
            int y = op >> 3 & 7;
            switch (op >> 6) {
                case 0: return turn(y, v);
                case 2: return v & ~(1 << y);
                default: return v | 1 << y;
            }
        }

        private void askBit(int y, int v, int shade) {
            int bit = v & 1 << y;
            r[F] = r[F] & FLAG_C | bit & FLAG_S | (bit == 0 ? FLAG_Z | FLAG_P : 0) | FLAG_H | shade & FLAGS_YX;
        }

        /** The ops behind ED, but for the blocks. */
        private int behindEd(int op) {
            if (op >> 6 != 1) {
                return 8;
            }
            int y = op >> 3 & 7;
            switch (op & 7) {
                case 0:
                    r[WZ] = pairAt(B) + 1 & 0xffff;
                    takeFromPort(y);
                    return 12;
                case 1:
                    r[WZ] = pairAt(B) + 1 & 0xffff;
                    ports.write(r[C], y == 6 ? 0 : one(y));
                    return 12;
                case 2: return (y & 1) == 0 ? takePair(y >> 1) : addPairAndCarry(y >> 1);
                case 3: return farPair(y);
                case 4:
                    r[A] = difference(0, r[A], 0);
                    return 8;
                case 5:
                    goTo(pop());
                    r[IFF1] = r[IFF2];
                    return 14;
                case 6:
                    r[MODE] = Math.max(0, (y & 3) - 1);
                    return 8;
                default: return moreOfA(y);
            }
        }

        private void takeFromPort(int y) {
            int v = ports.read(r[C]);
            if (y != 6) {
                putOne(y, v);
            }
            r[F] = r[F] & FLAG_C | by(v) | parity(v);
        }

        private int takePair(int p) {
            int a = hl();
            int b = pair(p);
            int all = a - b - (r[F] & FLAG_C);
            putWide(a, b, all);
            int over = (a ^ b) & (a ^ all) & 0x8000;
            r[F] |= (over != 0 ? FLAG_P : 0) | FLAG_N;
            return 15;
        }

        private int addPairAndCarry(int p) {
            int a = hl();
            int b = pair(p);
            int all = a + b + (r[F] & FLAG_C);
            putWide(a, b, all);
            int over = ~(a ^ b) & (a ^ all) & 0x8000;
            r[F] |= over != 0 ? FLAG_P : 0;
            return 15;
        }

        private void putWide(int a, int b, int all) {
            r[WZ] = a + 1 & 0xffff;
            putHl(all);
            r[F] = all >> 8 & (FLAG_S | FLAGS_YX) | ((all & 0xffff) == 0 ? FLAG_Z : 0)
                | (a ^ b ^ all) >> 8 & FLAG_H | all >> 16 & FLAG_C;
        }

        private int farPair(int y) {
            int at = fetchWord();
            r[WZ] = at + 1 & 0xffff;
            if ((y & 1) == 0) {
                writeWord(at, pair(y >> 1));
            } else {
                putPair(y >> 1, readWord(at));
            }
            return 20;
        }

        private int moreOfA(int y) {
            switch (y) {
                case 0:
                    r[I] = r[A];
                    return 9;
                case 1:
                    r[R] = r[A];
                    return 9;
                case 2: case 3:
                    r[A] = y == 2 ? r[I] : r[R];
                    r[F] = r[F] & FLAG_C | by(r[A]) | (r[IFF2] == 1 ? FLAG_P : 0);
                    return 9;
                case 4: case 5:
                    turnDigits(y == 4);
                    return 18;
                default: return 8;
            }
        }

        private void turnDigits(boolean right) {
            int at = pairAt(H);
            int m = memory.read(at);
            int low = r[A] & 15;
            r[WZ] = at + 1 & 0xffff;
            memory.write(at, right ? low << 4 | m >> 4 : m << 4 & 255 | low);
            r[A] = r[A] & 0xf0 | (right ? m & 15 : m >> 4);
            r[F] = r[F] & FLAG_C | by(r[A]) | parity(r[A]);
        }

        /** The ops behind ED of x 2, y 4 .. 7, z 0 .. 3. */
        private int block(int op) {
            int s = (op & 8) == 0 ? 1 : -1;
            boolean again;
            switch (op & 3) {
                case 0: again = copyOne(s); break;
                case 1: again = compareOne(s); break;
                case 2: again = takeOne(s); break;
                default: again = giveOne(s); break;
            }
            if (!again || (op & 16) == 0) {
                return 16;
            }
            r[PC] = r[PC] - 2 & 0xffff;
            if ((op & 2) == 0) {
                r[WZ] = r[PC] + 1 & 0xffff;
            }
            return 21;
        }

        private boolean copyOne(int s) {
            int m = memory.read(pairAt(H));
            memory.write(pairAt(D), m);
            putPairAt(H, pairAt(H) + s);
            putPairAt(D, pairAt(D) + s);
            putPairAt(B, pairAt(B) - 1);
            boolean left = pairAt(B) != 0;
            int k = r[A] + m;
            r[F] = r[F] & (FLAG_S | FLAG_Z | FLAG_C) | (k & 2) << 4 | k & 8 | (left ? FLAG_P : 0);
            return left;
        }

        private boolean compareOne(int s) {
            int m = memory.read(pairAt(H));
            int v = r[A] - m & 255;
            int half = (r[A] ^ m ^ v) & FLAG_H;
            putPairAt(H, pairAt(H) + s);
            putPairAt(B, pairAt(B) - 1);
            r[WZ] = r[WZ] + s & 0xffff;
            boolean left = pairAt(B) != 0;
            int k = v - (half >> 4);
            r[F] = r[F] & FLAG_C | v & FLAG_S | (v == 0 ? FLAG_Z : 0) | half
                | (k & 2) << 4 | k & 8 | (left ? FLAG_P : 0) | FLAG_N;
            return left && v != 0;
        }

        private boolean takeOne(int s) {
            r[WZ] = pairAt(B) + s & 0xffff;
            int m = ports.read(r[C]);
            r[B] = r[B] - 1 & 255;
            memory.write(pairAt(H), m);
            putPairAt(H, pairAt(H) + s);
            tellOfPort(m, m + (r[C] + s & 255));
            return r[B] != 0;
        }

        private boolean giveOne(int s) {
            int m = memory.read(pairAt(H));
            r[B] = r[B] - 1 & 255;
            ports.write(r[C], m);
            putPairAt(H, pairAt(H) + s);
            r[WZ] = pairAt(B) + s & 0xffff;
            tellOfPort(m, m + r[L]);
            return r[B] != 0;
        }

        private void tellOfPort(int m, int k) {
            r[F] = by(r[B]) | m >> 6 & FLAG_N | (k > 255 ? FLAG_H | FLAG_C : 0) | parity(k & 7 ^ r[B]);
        }
    }

    /** The ports, with what hangs at them: pads, START, the two lines, and what is written there and kept. */
    private static final class Ports {
        static final int W = 0;
        static final int H_LATCH = 6;
        // 1 .. 5 are the ports of a handy console, by their numbers.
        private static final int PADS = 7;
        private static final int START = 9;
        private static final int LINES = 10;
        private static final int PLACES = 12;

        private final boolean handy;
        private final Video screen;
        private final Sound tones;
        private final Waves synth;
        private final int[] p = new int[PLACES];
        private final int[] kept = new int[PLACES];

        Ports(boolean handy, Video screen, Sound tones, Waves synth) {
            this.handy = handy;
            this.screen = screen;
            this.tones = tones;
            this.synth = synth;
            p[LINES] = 1;
            p[LINES + 1] = 1;
            clear();
        }

        /** As at first, but for what a hand holds: pads, START and lines. */
        void clear() {
            p[W] = 255;
            p[1] = 127;
            p[2] = 255;
            p[3] = 0;
            p[4] = 255;
            p[5] = 0;
            p[H_LATCH] = 0;
        }

        void keep() {
            System.arraycopy(p, 0, kept, 0, PLACES);
        }

        void bringBack() {
            System.arraycopy(kept, 0, p, 0, PLACES);
        }

        int value(int k) {
            return k >= 0 && k < PLACES ? p[k] : 0;
        }

        static boolean canPress(int pad, int buttons) {
            return pad >= 0 && pad <= 1 && buttons >= 0 && buttons <= 63;
        }

        void holdButtons(int pad, int buttons) {
            p[PADS + (pad & 1)] = buttons;
        }

        void holdStart(boolean pressed) {
            p[START] = pressed ? 1 : 0;
        }

        void moveLine(int k, boolean up) {
            changeLines(LINES + (k & 1), up ? 1 : 0);
        }

        /** LINE 0 as bit 0, LINE 1 as bit 1. */
        private int lines() {
            int w = p[W];
            int line0 = (w & 2) == 0 ? w >> 5 & 1 : p[LINES];
            int line1 = (w & 8) == 0 ? w >> 7 & 1 : p[LINES + 1];
            return line0 | line1 << 1;
        }

        private void changeLines(int k, int v) {
            int before = lines();
            p[k] = v;
            if ((lines() & ~before) != 0) {
                p[H_LATCH] = screen.hCount();
            }
        }

        int read(int port) {
            boolean even = (port & 1) == 0;
            switch (port >> 6) {
                case 0: return handy ? readHandy(port) : 255;
                case 1: return even ? screen.vCount() : p[H_LATCH];
                case 2: return even ? screen.readData() : screen.readStatus();
                default:
                    if (port == 0xf2 && !handy) {
                        return synth.value(Waves.AUDIO);
                    }
                    return even ? readEvenPads() : readOddPads();
            }
        }

        private int readHandy(int port) {
            if (port == 0) {
                return p[START] == 1 ? 64 : 192;
            }
            return port >= 1 && port <= 5 ? p[port] : 255;
        }

        private int readEvenPads() {
            int v = ~(p[PADS] | p[PADS + 1] << 6) & 255;
            return (p[W] & 1) == 0 ? v & ~32 | (p[W] & 16) << 1 : v;
        }

        private int readOddPads() {
            int v = ~(p[PADS + 1] >> 2) & 15 | 0x30 | lines() << 6;
            return (p[W] & 4) == 0 ? v & ~8 | (p[W] & 64) >> 3 : v;
        }

        void write(int port, int v) {
            boolean even = (port & 1) == 0;
            switch (port >> 6) {
                case 0:
                    if (handy && port >= 1 && port <= 6) {
                        writeHandy(port, v);
                    } else if (!even) {
                        changeLines(W, v);
                    }
                    break;
                case 1:
                    tones.take(v);
                    break;
                case 2:
                    if (even) {
                        screen.writeData(v);
                    } else {
                        screen.writeControl(v);
                    }
                    break;
                default:
                    if (!handy && port >= 0xf0 && port <= 0xf2) {
                        synth.take(port, v);
                    }
                    break;
            }
        }

        private void writeHandy(int port, int v) {
            if (port == 6) {
                tones.takeStereo(v);
            } else if (port >= 1 && port <= 5) {
                p[port] = v;
            }
        }
    }

    /** The video chip but for the drawing: its row holds what chip() tells, by the numbers of chip(). */
    private static final class Video {
        static final int STATUS = 15;
        static final int SCROLL = 19;
        static final int LINE = 20;
        static final int CRAM = 32;
        static final int FRAME = 0x80;
        static final int OVER = 0x40;
        static final int HIT = 0x20;
        private static final int ADDRESS = 11;
        private static final int CODE = 12;
        private static final int BUFFER = 13;
        private static final int FIRST = 14;
        private static final int LINE_ASKS = 16;
        private static final int COUNTER = 18;
        private static final int BEAT = 21;
        // The even CRAM byte of a handy console that waits for the odd one; chip() does not tell it.
        private static final int ASIDE = 26;
        private static final int PLACES = 96;
        private static final int VRAM_SIZE = 16384;
        private static final int BEATS_OF_LINE = 228;

        private final boolean handy;
        private final int lines;
        private final int[] vram = new int[VRAM_SIZE];
        private final int[] vramKept = new int[VRAM_SIZE];
        private final int[] s = new int[PLACES];
        private final int[] kept = new int[PLACES];

        Video(boolean handy, int lines) {
            this.handy = handy;
            this.lines = lines;
        }

        void clear() {
            Arrays.fill(vram, 0);
            Arrays.fill(s, 0);
        }

        void keep() {
            System.arraycopy(vram, 0, vramKept, 0, VRAM_SIZE);
            System.arraycopy(s, 0, kept, 0, PLACES);
        }

        void bringBack() {
            System.arraycopy(vramKept, 0, vram, 0, VRAM_SIZE);
            System.arraycopy(kept, 0, s, 0, PLACES);
        }

        static boolean has(int what) {
            return what >= 0 && what <= 25 || what >= CRAM && what < PLACES;
        }

        int value(int what) {
            switch (what) {
                case 17: return asks() ? 1 : 0;
                case 22: return mode();
                case 23: return height();
                case 24: return hCount();
                case 25: return vCount();
                default: return held(what);
            }
        }

        /** What the row holds, without what is told by other numbers of it. */
        int held(int k) {
            return k >= 0 && k < PLACES ? s[k] : 0;
        }

        int vramByte(int place) {
            return vram[place & 0x3fff];
        }

        long eightFrom(int place) {
            long v = 0;
            for (int i = 7; i >= 0; i--) {
                v = v << 8 | vram[place + i & 0x3fff];
            }
            return v;
        }

        void mark(int bits) {
            s[STATUS] |= bits;
        }

        void markFifth(int number) {
            if ((s[STATUS] & OVER) == 0) {
                s[STATUS] = s[STATUS] & (FRAME | HIT) | OVER | number & 31;
            }
        }

        void writeControl(int v) {
            if (s[FIRST] == 0) {
                s[ADDRESS] = s[ADDRESS] & 0x3f00 | v;
                s[FIRST] = 1;
                return;
            }
            s[FIRST] = 0;
            s[ADDRESS] = (v & 63) << 8 | s[ADDRESS] & 255;
            s[CODE] = v >> 6;
            if (s[CODE] == 0) {
                readAhead();
            } else if (s[CODE] == 2 && (v & 15) <= 10) {
                s[v & 15] = s[ADDRESS] & 255;
            }
        }

        private void readAhead() {
            s[BUFFER] = vram[s[ADDRESS] & 0x3fff];
            s[ADDRESS] = s[ADDRESS] + 1 & 0x3fff;
        }

        int readStatus() {
            int v = s[STATUS];
            s[FIRST] = 0;
            s[STATUS] = 0;
            s[LINE_ASKS] = 0;
            return v;
        }

        int readData() {
            int v = s[BUFFER];
            s[FIRST] = 0;
            readAhead();
            return v;
        }

        void writeData(int v) {
            int at = s[ADDRESS] & 0x3fff;
            s[FIRST] = 0;
            s[BUFFER] = v;
            s[ADDRESS] = at + 1 & 0x3fff;
            if (s[CODE] == 3) {
                writeColour(at, v);
            } else {
                vram[at] = v;
            }
        }

        private void writeColour(int at, int v) {
            if (!handy) {
                s[CRAM + (at & 31)] = v;
            } else if ((at & 1) == 0) {
                s[ASIDE] = v;
            } else {
                s[CRAM + (at & 62)] = s[ASIDE];
                s[CRAM + (at & 63)] = v;
            }
        }

        boolean asks() {
            return (s[1] & 0x20) != 0 && (s[STATUS] & FRAME) != 0 || (s[0] & 0x10) != 0 && s[LINE_ASKS] == 1;
        }

        int mode() {
            if ((s[0] & 4) != 0) {
                return 4;
            }
            if ((s[1] & 0x10) != 0) {
                return 1;
            }
            if ((s[1] & 8) != 0) {
                return 3;
            }
            return (s[0] & 2) != 0 ? 2 : 0;
        }

        int height() {
            if ((s[0] & 6) != 6) {
                return 192;
            }
            switch (s[1] & 0x18) {
                case 0x10: return 224;
                case 8: return 240;
                default: return 192;
            }
        }

        int hCount() {
            int t = s[BEAT] * 3 / 4;
            return t >= 0x94 ? t + 0x55 : t;
        }

        int vCount() {
            int height = height();
            boolean more = lines == 313;
            int from;
            switch (height) {
                case 192: from = more ? 243 : 219; break;
                case 224: from = more ? 259 : 235; break;
                default: from = more ? 267 : lines; break;
            }
            int v = s[LINE] < from ? s[LINE] : s[LINE] - (more ? 57 : 6);
            return v & 255;
        }

        /** Time goes on within the line: whether the line ends. */
        boolean passes(int beats) {
            s[BEAT] += beats;
            if (s[BEAT] < BEATS_OF_LINE) {
                return false;
            }
            s[BEAT] -= BEATS_OF_LINE;
            return true;
        }

        /** Whether this was the last line of a picture. */
        boolean goesToNextLine() {
            int height = height();
            if (s[LINE] > height) {
                s[COUNTER] = s[10];
            } else {
                s[COUNTER]--;
                if (s[COUNTER] < 0) {
                    s[COUNTER] = s[10];
                    s[LINE_ASKS] = 1;
                }
            }
            s[LINE]++;
            boolean last = s[LINE] >= lines;
            if (last) {
                s[LINE] = 0;
                s[SCROLL] = s[9];
            }
            if (s[LINE] == height + 1) {
                s[STATUS] |= FRAME;
            }
            return last;
        }
    }

    /** Draws the lines of the video chip, and keeps the picture. */
    private static final class Painter {
        private static final int WIDTH = 256;
        private static final int MOST_LINES = 240;
        private static final int HANDY_WIDTH = 160;
        private static final int HANDY_HEIGHT = 144;
        private static final int HANDY_LEFT = 48;
        private static final int HANDY_UP = 24;
        private static final int END_OF_SPRITES = 208;
        // Beside a number: that the tile stands ahead of sprites; that a sprite has a 1 there.
        private static final int AHEAD = 256;
        private static final int TAKEN = 256;
        private static final int[] FIXED_COLOURS = {0, 0, 8, 12, 16, 48, 1, 60, 2, 3, 5, 15, 4, 51, 21, 63};

        private final Video chip;
        private final boolean handy;
        private final int[] picture = new int[WIDTH * MOST_LINES];
        private final int[] kept = new int[WIDTH * MOST_LINES];
        private final int[] numbers = new int[WIDTH];
        private final int[] sprites = new int[WIDTH];
        private final int[] colours = new int[32];
        // The row of the tile that is being drawn in mode 4.
        private int planes;
        private int tileBits;

        Painter(Video chip, boolean handy) {
            this.chip = chip;
            this.handy = handy;
        }

        void keep() {
            System.arraycopy(picture, 0, kept, 0, picture.length);
        }

        void bringBack() {
            System.arraycopy(kept, 0, picture, 0, picture.length);
        }

        int width() {
            return handy ? HANDY_WIDTH : WIDTH;
        }

        int height() {
            return handy ? HANDY_HEIGHT : chip.height();
        }

        int dotAt(int x, int y) {
            int place = placeOf(y) + x;
            return place >= 0 && place < picture.length ? picture[place] : 0;
        }

        private int placeOf(int y) {
            return handy ? (y + HANDY_UP) * WIDTH + HANDY_LEFT : y * WIDTH;
        }

        int sumOfLine(int y) {
            int sum = 0;
            int from = placeOf(y);
            int end = Math.min(from + width(), picture.length);
            for (int i = Math.max(0, from); i < end; i++) {
                sum = 31 * sum + picture[i];
            }
            return sum;
        }

        void draw() {
            int line = chip.held(Video.LINE);
            if (line < 0 || line >= MOST_LINES) {
                return;
            }
            int mode = chip.mode();
            int back = (mode == 4 ? 16 : 0) + (chip.held(7) & 15);
            if ((chip.held(1) & 0x40) == 0) {
                Arrays.fill(numbers, back);
            } else if (mode == 4) {
                drawTiles(line);
                drawSprites(line);
                if ((chip.held(0) & 0x20) != 0) {
                    Arrays.fill(numbers, 0, 8, back);
                }
            } else {
                drawOld(mode, line);
                if (mode != 1) {
                    drawOldSprites(line);
                }
                fillBack(back);
            }
            mixColours(mode);
            for (int i = 0; i < WIDTH; i++) {
                picture[line * WIDTH + i] = colours[numbers[i] & 31];
            }
        }

        private void mixColours(int mode) {
            for (int i = 0; i < 32; i++) {
                if (mode == 4) {
                    colours[i] = handy
                        ? (chip.held(Video.CRAM + 2 * i) | chip.held(Video.CRAM + 2 * i + 1) << 8) & 4095
                        : chip.held(Video.CRAM + i) & 63;
                } else {
                    int c = FIXED_COLOURS[i & 15];
                    colours[i] = handy ? 5 * (c & 3) + 80 * (c >> 2 & 3) + 1280 * (c >> 4) : c;
                }
            }
        }

        private void fillBack(int back) {
            for (int i = 0; i < WIDTH; i++) {
                if (numbers[i] == 0) {
                    numbers[i] = back;
                }
            }
        }

        private void drawTiles(int line) {
            boolean tall = chip.height() != 192;
            int register0 = chip.held(0);
            int register2 = chip.held(2);
            int names = tall ? 4096 * (register2 >> 2 & 3) + 1792 : 1024 * (register2 & 14);
            int across = line < 16 && (register0 & 0x40) != 0 ? 0 : chip.held(8);
            int down = (line + chip.held(Video.SCROLL)) % (tall ? 256 : 224);
            boolean still = (register0 & 0x80) != 0;
            for (int i = 0; i < WIDTH; i++) {
                int column = i - across & 255;
                if (i == 0 || i == 192 || (column & 7) == 0) {
                    takeTile(names + 2 * (column >> 3), still && i >= 192 ? line : down);
                }
                int place = (tileBits & 0x200) != 0 ? 7 - (column & 7) : column & 7;
                int number = numberIn(planes, place);
                boolean ahead = number > 0 && (tileBits & 0x1000) != 0;
                numbers[i] = number + ((tileBits & 0x800) != 0 ? 16 : 0) + (ahead ? AHEAD : 0);
            }
        }

        private void takeTile(int column, int row) {
            int at = column + 64 * (row >> 3);
            tileBits = chip.vramByte(at) | chip.vramByte(at + 1) << 8;
            int tileRow = (tileBits & 0x400) != 0 ? 7 - (row & 7) : row & 7;
            takePlanes(32 * (tileBits & 511) + 4 * tileRow);
        }

        private void takePlanes(int at) {
            planes = chip.vramByte(at) | chip.vramByte(at + 1) << 8
                | chip.vramByte(at + 2) << 16 | chip.vramByte(at + 3) << 24;
        }

        private static int numberIn(int planes, int place) {
            int bits = planes >>> 7 - place & 0x01010101;
            return bits & 1 | bits >> 7 & 2 | bits >> 14 & 4 | bits >> 21 & 8;
        }

        private void drawSprites(int line) {
            Arrays.fill(sprites, 0);
            int table = 256 * (chip.held(5) >> 1 & 63);
            boolean ends = chip.height() == 192;
            int found = 0;
            for (int n = 0; n < 64; n++) {
                int up = chip.vramByte(table + n);
                if (ends && up == END_OF_SPRITES) {
                    break;
                }
                int row = rowOfSprite(line, up);
                if (row >= 0) {
                    found++;
                    if (found > 8) {
                        chip.mark(Video.OVER);
                        break;
                    }
                    drawSprite(table + 128 + 2 * n, row);
                }
            }
            for (int i = 0; i < WIDTH; i++) {
                if (sprites[i] > 0 && (numbers[i] & AHEAD) == 0) {
                    numbers[i] = 16 + sprites[i];
                }
            }
        }

        /** Which of its own rows a sprite has on a line, -1 if it is not there. */
        private int rowOfSprite(int line, int up) {
            int shape = chip.held(1);
            int row = line - up - 1 & 255;
            if ((shape & 1) != 0) {
                row >>= 1;
            }
            return row < ((shape & 2) != 0 ? 16 : 8) ? row : -1;
        }

        private void drawSprite(int at, int row) {
            int left = chip.vramByte(at) - ((chip.held(0) & 8) != 0 ? 8 : 0);
            int tile = chip.vramByte(at + 1) + ((chip.held(6) & 4) != 0 ? 256 : 0);
            int shape = chip.held(1);
            int twice = shape & 1;
            takePlanes(32 * ((shape & 2) != 0 ? tile & ~1 : tile) + 4 * row);
            for (int i = 0; i < 8 << twice; i++) {
                int x = left + i;
                int number = numberIn(planes, i >> twice);
                if (number > 0 && x >= 0 && x < WIDTH) {
                    if (sprites[x] > 0) {
                        chip.mark(Video.HIT);
                    } else {
                        sprites[x] = number;
                    }
                }
            }
        }

        /** The modes 0 to 3, but for sprites; 0 stands where BACK comes. */
        private void drawOld(int mode, int line) {
            int names = 1024 * (chip.held(2) & 15);
            if (mode == 1) {
                drawText(names, line);
                return;
            }
            for (int column = 0; column < 32; column++) {
                int tile = chip.vramByte(names + 32 * (line >> 3) + column);
                switch (mode) {
                    case 0:
                        drawPattern(8 * column, patternAt(tile, line), chip.vramByte(64 * chip.held(3) + (tile >> 3)));
                        break;
                    case 2:
                        drawThird(8 * column, tile + 256 * (line >> 6), line & 7);
                        break;
                    default:
                        drawBlocks(8 * column, tile, line);
                        break;
                }
            }
        }

        private int patternAt(int tile, int line) {
            return chip.vramByte(2048 * (chip.held(4) & 7) + 8 * tile + (line & 7));
        }

        private void drawText(int names, int line) {
            int ink = chip.held(7);
            Arrays.fill(numbers, 0);
            for (int column = 0; column < 40; column++) {
                int bits = patternAt(chip.vramByte(names + 40 * (line >> 3) + column), line);
                for (int b = 0; b < 6; b++) {
                    numbers[8 + 6 * column + b] = (bits >> 7 - b & 1) != 0 ? ink >> 4 : ink & 15;
                }
            }
        }

        private void drawPattern(int left, int bits, int pair) {
            for (int b = 0; b < 8 && left + b < WIDTH; b++) {
                numbers[left + b] = (bits >> 7 - b & 1) != 0 ? pair >> 4 : pair & 15;
            }
        }

        private void drawThird(int left, int tile, int row) {
            int register3 = chip.held(3);
            int register4 = chip.held(4);
            int u = tile & 256 * (register4 & 3) + 255;
            int w = tile & 8 * (register3 & 127) + 7;
            int bits = chip.vramByte(8192 * (register4 >> 2 & 1) + 8 * u + row);
            drawPattern(left, bits, chip.vramByte(8192 * (register3 >> 7) + 8 * w + row));
        }

        private void drawBlocks(int left, int tile, int line) {
            int at = 2048 * (chip.held(4) & 7) + 8 * tile + 2 * (line >> 3 & 3) + (line >> 2 & 1);
            // Four dots of the high colour, then four of the low one.
            drawPattern(left, 0xf0, chip.vramByte(at));
        }

        private void drawOldSprites(int line) {
            Arrays.fill(sprites, 0);
            int table = 128 * (chip.held(5) & 127);
            int found = 0;
            for (int n = 0; n < 32; n++) {
                int at = table + 4 * n;
                int up = chip.vramByte(at);
                if (up == END_OF_SPRITES) {
                    break;
                }
                int row = rowOfSprite(line, up);
                if (row >= 0) {
                    found++;
                    if (found > 4) {
                        chip.markFifth(n);
                        break;
                    }
                    drawOldSprite(at, row);
                }
            }
            for (int i = 0; i < WIDTH; i++) {
                if ((sprites[i] & 15) > 0) {
                    numbers[i] = sprites[i] & 15;
                }
            }
        }

        private void drawOldSprite(int at, int row) {
            int last = chip.vramByte(at + 3);
            int left = chip.vramByte(at + 1) - ((last & 0x80) != 0 ? 32 : 0);
            int pattern = chip.vramByte(at + 2);
            int shape = chip.held(1);
            int twice = shape & 1;
            boolean large = (shape & 2) != 0;
            int from = 2048 * (chip.held(6) & 7) + 8 * (large ? pattern & ~3 : pattern) + row;
            int bits = chip.vramByte(from) << 8 | (large ? chip.vramByte(from + 16) : 0);
            for (int i = 0; i < (large ? 16 : 8) << twice; i++) {
                int x = left + i;
                if ((bits >> 15 - (i >> twice) & 1) != 0 && x >= 0 && x < WIDTH) {
                    takeDot(x, last & 15);
                }
            }
        }

        private void takeDot(int x, int colour) {
            if (sprites[x] != 0) {
                chip.mark(Video.HIT);
            }
            if ((sprites[x] & 15) == 0) {
                sprites[x] = TAKEN | colour;
            }
        }
    }

    /** The sound chip: its row holds what sound() tells, by the numbers of sound(). */
    private static final class Sound {
        static final int STEREO = 18;
        private static final int PERIODS = 0;
        private static final int COUNTS = 3;
        private static final int LEVELS = 6;
        private static final int LOUDNESSES = 9;
        private static final int NOISE_CONTROL = 13;
        private static final int NOISE_COUNT = 14;
        private static final int NOISE_LEVEL = 15;
        private static final int NOISE_ROW = 16;
        private static final int LATCH = 17;
        private static final int PLACES = 19;
        private static final int[] LOUD = {
            8191, 6506, 5168, 4105, 3261, 2590, 2057, 1634, 1298, 1031, 819, 650, 517, 410, 326, 0,
        };

        private final int[] s = new int[PLACES];
        private final int[] kept = new int[PLACES];

        Sound() {
            clear();
        }

        void clear() {
            Arrays.fill(s, 0);
            Arrays.fill(s, LOUDNESSES, LOUDNESSES + 4, 15);
            s[NOISE_ROW] = 0x8000;
            s[STEREO] = 255;
        }

        void keep() {
            System.arraycopy(s, 0, kept, 0, PLACES);
        }

        void bringBack() {
            System.arraycopy(kept, 0, s, 0, PLACES);
        }

        int value(int what) {
            return what >= 0 && what < PLACES ? s[what] : 0;
        }

        void takeStereo(int v) {
            s[STEREO] = v;
        }

        void take(int v) {
            boolean first = v >= 128;
            if (first) {
                s[LATCH] = v >> 4 & 7;
            }
            int c = s[LATCH] >> 1;
            if ((s[LATCH] & 1) == 1) {
                s[LOUDNESSES + c] = v & 15;
            } else if (c == 3) {
                s[NOISE_CONTROL] = v & 7;
                s[NOISE_ROW] = 0x8000;
            } else if (first) {
                s[PERIODS + c] = s[PERIODS + c] & 0x3f0 | v & 15;
            } else {
                s[PERIODS + c] = s[PERIODS + c] & 15 | (v & 63) << 4;
            }
        }

        /** Goes on by 16 beats: the sample, 65536 * left + right. */
        int nextSample() {
            for (int c = 0; c < 3; c++) {
                moveTone(c);
            }
            moveNoise();
            int left = 0;
            int right = 0;
            for (int c = 0; c < 4; c++) {
                int on = c == 3 ? s[NOISE_ROW] & 1 : s[LEVELS + c];
                int loud = on == 1 ? LOUD[s[LOUDNESSES + c] & 15] : 0;
                left += (s[STEREO] >> c + 4 & 1) * loud;
                right += (s[STEREO] >> c & 1) * loud;
            }
            return left << 16 | right;
        }

        private void moveTone(int c) {
            int count = Math.max(0, s[COUNTS + c] - 1);
            if (count == 0) {
                count = s[PERIODS + c];
                s[LEVELS + c] = count <= 1 ? 1 : s[LEVELS + c] ^ 1;
            }
            s[COUNTS + c] = count;
        }

        private void moveNoise() {
            s[NOISE_COUNT] = Math.max(0, s[NOISE_COUNT] - 1);
            if (s[NOISE_COUNT] > 0) {
                return;
            }
            int kind = s[NOISE_CONTROL] & 3;
            s[NOISE_COUNT] = kind == 3 ? s[PERIODS + 2] : 16 << kind;
            s[NOISE_LEVEL] ^= 1;
            if (s[NOISE_LEVEL] == 1) {
                int row = s[NOISE_ROW];
                int comes = s[NOISE_CONTROL] < 4 ? row & 1 : (row ^ row >> 3) & 1;
                s[NOISE_ROW] = row >> 1 | comes << 15;
            }
        }
    }

    /** The waves: the row holds what wave() tells, by the numbers of wave(), and the number that port 0xf0 got. */
    private static final class Waves {
        static final int AUDIO = 64;
        private static final int DUST = 65;
        private static final int N = 66;
        private static final int LATEST = 67;
        private static final int NUMBER = 68;
        private static final int OPERATORS = 128;
        private static final int PLACES = 272;
        private static final int CHANNELS = 9;
        private static final int LEVEL = 0;
        private static final int STATE = 1;
        private static final int PHASE = 2;
        private static final int OUT = 3;
        private static final int OUT2 = 4;
        private static final int ON = 5;
        private static final int MOST_LEVEL = 127;
        private static final int SILENT_LEVEL = 124;
        private static final long[] PATCHES = {
            0x71611e17d0780017L, 0x13411a0dd8f72313L, 0x13019900f2c41123L, 0x31610e07a8647027L,
            0x32211e06e0760028L, 0x31221605e0710018L, 0x21611d0782811007L, 0x23212d14a2720007L,
            0x61611b0664651017L, 0x41610b1885f77107L, 0x13018311fae41004L, 0x17c12407f8f82212L,
            0x61500c05c2f52042L, 0x01015503c9950302L, 0x61418903f1e44013L, 0x0101180fdff86a6dL,
            0x01010000c8d8a748L, 0x05010000f8aa5955L,
        };
        // Bit i is T(i), by l.
        private static final int[] TICKS = {0xaa, 0xba, 0xee, 0xfe};
        private static final int[] MULTIPLES = {1, 2, 4, 6, 8, 10, 12, 14, 16, 18, 20, 20, 24, 24, 30, 30};
        private static final int[] SCALES = {0, 48, 64, 74, 80, 86, 90, 94, 96, 100, 102, 104, 106, 108, 110, 112};
        // -256 * log2(sin((2 * i + 1) * pi / 1024))
        private static final int[] LOGS = {
            2137, 1731, 1543, 1419, 1326, 1252, 1190, 1137, 1091, 1050, 1013, 979, 949, 920, 894, 869,
            846, 825, 804, 785, 767, 749, 732, 717, 701, 687, 672, 659, 646, 633, 621, 609,
            598, 587, 576, 566, 556, 546, 536, 527, 518, 509, 501, 492, 484, 476, 468, 461,
            453, 446, 439, 432, 425, 418, 411, 405, 399, 392, 386, 380, 375, 369, 363, 358,
            352, 347, 341, 336, 331, 326, 321, 316, 311, 307, 302, 297, 293, 289, 284, 280,
            276, 271, 267, 263, 259, 255, 251, 248, 244, 240, 236, 233, 229, 226, 222, 219,
            215, 212, 209, 205, 202, 199, 196, 193, 190, 187, 184, 181, 178, 175, 172, 169,
            167, 164, 161, 159, 156, 153, 151, 148, 146, 143, 141, 138, 136, 134, 131, 129,
            127, 125, 122, 120, 118, 116, 114, 112, 110, 108, 106, 104, 102, 100, 98, 96,
            94, 92, 91, 89, 87, 85, 83, 82, 80, 78, 77, 75, 74, 72, 70, 69,
            67, 66, 64, 63, 62, 60, 59, 57, 56, 55, 53, 52, 51, 49, 48, 47,
            46, 45, 43, 42, 41, 40, 39, 38, 37, 36, 35, 34, 33, 32, 31, 30,
            29, 28, 27, 26, 25, 24, 23, 23, 22, 21, 20, 20, 19, 18, 17, 17,
            16, 15, 15, 14, 13, 13, 12, 12, 11, 10, 10, 9, 9, 8, 8, 7,
            7, 7, 6, 6, 5, 5, 5, 4, 4, 4, 3, 3, 3, 2, 2, 2,
            2, 1, 1, 1, 1, 1, 1, 1, 0, 0, 0, 0, 0, 0, 0, 0,
        };
        // 1024 * (2 to the (i / 256) - 1)
        private static final int[] POWERS = {
            0, 3, 6, 8, 11, 14, 17, 20, 22, 25, 28, 31, 34, 37, 40, 42,
            45, 48, 51, 54, 57, 60, 63, 66, 69, 72, 75, 78, 81, 84, 87, 90,
            93, 96, 99, 102, 105, 108, 111, 114, 117, 120, 123, 126, 130, 133, 136, 139,
            142, 145, 148, 152, 155, 158, 161, 164, 168, 171, 174, 177, 181, 184, 187, 190,
            194, 197, 200, 204, 207, 210, 214, 217, 220, 224, 227, 231, 234, 237, 241, 244,
            248, 251, 255, 258, 262, 265, 268, 272, 276, 279, 283, 286, 290, 293, 297, 300,
            304, 308, 311, 315, 318, 322, 326, 329, 333, 337, 340, 344, 348, 352, 355, 359,
            363, 367, 370, 374, 378, 382, 385, 389, 393, 397, 401, 405, 409, 412, 416, 420,
            424, 428, 432, 436, 440, 444, 448, 452, 456, 460, 464, 468, 472, 476, 480, 484,
            488, 492, 496, 501, 505, 509, 513, 517, 521, 526, 530, 534, 538, 542, 547, 551,
            555, 560, 564, 568, 572, 577, 581, 585, 590, 594, 599, 603, 607, 612, 616, 621,
            625, 630, 634, 639, 643, 648, 652, 657, 661, 666, 670, 675, 680, 684, 689, 693,
            698, 703, 708, 712, 717, 722, 726, 731, 736, 741, 745, 750, 755, 760, 765, 770,
            774, 779, 784, 789, 794, 799, 804, 809, 814, 819, 824, 829, 834, 839, 844, 849,
            854, 859, 864, 869, 874, 880, 885, 890, 895, 900, 906, 911, 916, 921, 927, 932,
            937, 942, 948, 953, 959, 964, 969, 975, 980, 986, 991, 996, 1002, 1007, 1013, 1018,
        };

        private final int[] s = new int[PLACES];
        private final int[] kept = new int[PLACES];
        // What the channel that is being moved has; its operators share it.
        private boolean rhythm;
        private int channel;
        private int f;
        private int block;
        private long patch;
        private long ownPatch;

        Waves() {
            clear();
        }

        void clear() {
            int n = s[N];
            Arrays.fill(s, 0);
            s[N] = n;
            s[DUST] = 1;
            for (int at = OPERATORS; at < PLACES; at += 8) {
                s[at + LEVEL] = MOST_LEVEL;
                s[at + STATE] = 4;
            }
        }

        void keep() {
            System.arraycopy(s, 0, kept, 0, PLACES);
        }

        void bringBack() {
            System.arraycopy(kept, 0, s, 0, PLACES);
        }

        static boolean has(int what) {
            return what >= 0 && what <= LATEST || what >= OPERATORS && what < PLACES && (what & 7) <= ON;
        }

        int value(int what) {
            if (what < 0 || what >= PLACES) {
                return 0;
            }
            return what == N ? s[N] & 0xffff : s[what];
        }

        /** What the latest wave adds to a mix. */
        int heard() {
            return (s[AUDIO] & 1) == 1 ? s[LATEST] : 0;
        }

        void take(int port, int v) {
            if (port == 0xf0) {
                s[NUMBER] = v & 63;
            } else if (port == 0xf1) {
                s[s[NUMBER] & 63] = v;
            } else {
                s[AUDIO] = v & 3;
            }
        }

        void makeNext() {
            s[N]++;
            rhythm = (s[14] & 0x20) != 0;
            takeOwnPatch();
            int sum = 0;
            for (int c = 0; c < CHANNELS; c++) {
                takeChannel(c);
                int at = OPERATORS + 16 * c;
                moveOperator(at, 0);
                moveOperator(at + 8, 1);
                int first = rhythm && c >= 7 ? s[at + OUT] : 0;
                sum += (first + s[at + 8 + OUT]) * (rhythm && c >= 6 ? 2 : 1);
            }
            int dust = s[DUST];
            s[DUST] = ((dust & 1) == 1 ? dust ^ 0x800200 : dust) >> 1;
            s[LATEST] = sum;
        }

        private void takeChannel(int c) {
            channel = c;
            f = s[16 + c] | (s[32 + c] & 1) << 8;
            block = s[32 + c] >> 1 & 7;
            int number = rhythm && c >= 6 ? 10 + c : s[48 + c] >> 4;
            patch = number > 0 && number <= PATCHES.length ? PATCHES[number - 1] : ownPatch;
        }

        private void takeOwnPatch() {
            ownPatch = 0;
            for (int i = 0; i < 8; i++) {
                ownPatch = ownPatch << 8 | s[i];
            }
        }

        private int part(int k) {
            return (int) (patch >>> 56 - 8 * k) & 255;
        }

        private void moveOperator(int at, int o) {
            int on = isOn(o) ? 1 : 0;
            if (on != s[at + ON]) {
                s[at + ON] = on;
                s[at + STATE] = on == 1 ? 0 : 4;
            }
            // What has died away stays as it is till it is on: no rate need be looked for.
            if (s[at + STATE] != 4 || s[at + LEVEL] < MOST_LEVEL) {
                moveLevel(at, o);
                moveState(at, part(6 + o) >> 4);
            }
            movePhase(at, part(o));
            moveOut(at, o);
        }

        private void moveOut(int at, int o) {
            int out = 0;
            if (s[at + LEVEL] < SILENT_LEVEL) {
                out = waveAt(turnedPhase(at, o) & 1023, softness(at, o), (part(3) >> 3 + o & 1) == 1);
            }
            s[at + OUT2] = s[at + OUT];
            s[at + OUT] = out;
        }

        private boolean isOn(int o) {
            if ((s[32 + channel] & 0x10) != 0) {
                return true;
            }
            if (!rhythm) {
                return false;
            }
            switch (channel) {
                case 6: return (s[14] & 0x10) != 0;
                case 7: return (s[14] & (o == 0 ? 1 : 8)) != 0;
                case 8: return (s[14] & (o == 0 ? 4 : 2)) != 0;
                default: return false;
            }
        }

        private int rateIn(int state, int o) {
            boolean stays = (part(o) & 0x20) != 0;
            int release = part(6 + o) & 15;
            switch (state) {
                case 0: return 12;
                case 1: return part(4 + o) >> 4;
                case 2: return part(4 + o) & 15;
                case 3: return stays ? 0 : release;
                default:
                    if ((s[32 + channel] & 0x20) != 0) {
                        return 5;
                    }
                    return stays ? release : 7;
            }
        }

        private void moveLevel(int at, int o) {
            int rate = rateIn(s[at + STATE], o);
            if (rate == 0) {
                return;
            }
            int key = 2 * block + (f >> 8);
            if ((part(o) & 0x10) == 0) {
                key /= 4;
            }
            int h = Math.min(15, rate + key / 4);
            int ticks = TICKS[key & 3];
            if (s[at + STATE] == 1) {
                s[at + LEVEL] = Math.max(0, louder(s[at + LEVEL], h, ticks));
            } else {
                s[at + LEVEL] = Math.min(MOST_LEVEL, s[at + LEVEL] + softer(h, ticks));
            }
        }

        private int louder(int level, int h, int ticks) {
            if (h == 15) {
                return 0;
            }
            if (h >= 12) {
                return level - (level >> 16 - h - (ticks >> slowTick() & 1)) - 1;
            }
            return tickAt(h, ticks) == 1 ? level - level / 16 - 1 : level;
        }

        private int softer(int h, int ticks) {
            switch (h) {
                case 15: return 2;
                case 14: return (ticks >> slowTick() & 1) + 1;
                case 13: return ticks >> slowTick() + (s[N] & 1) & 1;
                default: return tickAt(h, ticks);
            }
        }

        /** u of the document. */
        private int slowTick() {
            return 2 * (s[N] >> 2 & 3);
        }

        private int tickAt(int h, int ticks) {
            int span = 13 - h;
            boolean comes = (s[N] & (1 << span) - 1) == 0;
            return comes ? ticks >> (s[N] >> span & 7) & 1 : 0;
        }

        private void moveState(int at, int depth) {
            int level = s[at + LEVEL];
            int state = s[at + STATE];
            if (state == 0 && level >= SILENT_LEVEL) {
                s[at + STATE] = 1;
                s[at + PHASE] = 0;
            } else if (state == 1 && level == 0) {
                s[at + STATE] = 2;
            } else if (state == 2 && level / 8 >= depth) {
                s[at + STATE] = 3;
            }
        }

        private void movePhase(int at, int head) {
            int w = (head & 0x40) != 0 ? sway(f / 64) : 0;
            int more = ((2 * f + w) * MULTIPLES[head & 15] << block) / 4;
            s[at + PHASE] = s[at + PHASE] + more & 0x7ffff;
        }

        private int sway(int most) {
            switch (s[N] >> 10 & 7) {
                case 1: case 3: return most / 2;
                case 2: return most;
                case 5: case 7: return -(most / 2);
                case 6: return -most;
                default: return 0;
            }
        }

        /** P + d of the document, or what stands for it with RHYTHM. */
        private int turnedPhase(int at, int o) {
            int p = s[at + PHASE] >> 9;
            if (rhythm && channel >= 7) {
                return drumPhase(p, o);
            }
            if (o == 1) {
                return p + s[at - 8 + OUT];
            }
            int back = part(3) & 7;
            return back == 0 ? p : p + (s[at + OUT] + s[at + OUT2] >> 9 - back);
        }

        private int drumPhase(int p, int o) {
            int a = s[OPERATORS + 16 * 7 + PHASE] >> 9;
            int b = s[OPERATORS + 16 * 8 + 8 + PHASE] >> 9;
            boolean x = ((a >> 2 ^ a >> 7 | a >> 3 ^ b >> 5 | b >> 3 ^ b >> 5) & 1) != 0;
            boolean y = (s[DUST] & 1) == 1;
            if (channel == 8) {
                return o == 0 ? p : x ? 0x300 : 0x100;
            }
            if (o == 0) {
                return x ? y ? 0x2d0 : 0x234 : y ? 0x34 : 0xd0;
            }
            return (p & 0x200) != 0 ? y ? 0x300 : 0x200 : y ? 0 : 0x100;
        }

        private static int waveAt(int p, int t, boolean halved) {
            boolean below = (p & 0x200) != 0;
            if (below && halved) {
                return 0;
            }
            int i = (p & 0x100) != 0 ? 255 - (p & 255) : p & 255;
            int v = LOGS[i] + 16 * t;
            int value = 2 * (1024 + POWERS[255 - (v & 255)] >> (v >> 8));
            return below ? -value : value;
        }

        /** t of the document. */
        private int softness(int at, int o) {
            int volume = s[48 + channel];
            int t = s[at + LEVEL] + scaled(part(2 + o) >> 6);
            if (o == 1) {
                t += 8 * (volume & 15);
            } else if (rhythm && channel >= 7) {
                t += 8 * (volume >> 4);
            } else {
                t += 2 * (part(2) & 63);
            }
            if ((part(o) & 0x80) != 0) {
                t += tremble();
            }
            return Math.min(MOST_LEVEL, t);
        }

        /** AM of the document. */
        private int tremble() {
            int q = s[N] / 64 % 210;
            return (q < 105 ? q : 210 - q) / 8;
        }

        /** G of the document. */
        private int scaled(int scale) {
            if (scale == 0) {
                return 0;
            }
            int k = SCALES[f >> 5 & 15] - 16 * (7 - block);
            return k > 0 ? k >> 3 - scale : 0;
        }
    }

    /** The latest 4096 samples or mixes, till they are taken. */
    private static final class Ring {
        private static final int SIZE = 4096;

        private final long[] values = new long[SIZE];
        private final long[] kept = new long[SIZE];
        private int first;
        private int count;
        private int firstKept;
        private int countKept;

        void add(long v) {
            values[first + count & SIZE - 1] = v;
            if (count < SIZE) {
                count++;
            } else {
                first = first + 1 & SIZE - 1;
            }
        }

        int size() {
            return count;
        }

        long takeFirst() {
            if (count == 0) {
                return 0;
            }
            long v = values[first & SIZE - 1];
            first = first + 1 & SIZE - 1;
            count--;
            return v;
        }

        void keep() {
            System.arraycopy(values, 0, kept, 0, SIZE);
            firstKept = first;
            countKept = count;
        }

        void bringBack() {
            System.arraycopy(kept, 0, values, 0, SIZE);
            first = firstKept;
            count = countKept;
        }
    }

    /** What has been counted since the beginning, and what comes of it: samples, waves and mixes. */
    private static final class Clock {
        static final int BEATS = 0;
        static final int STEPS = 1;
        static final int PICTURES = 2;
        static final int SAMPLES = 3;
        private static final int LEFT = 4;
        private static final int RIGHT = 5;
        private static final int SUMMED = 6;
        private static final int PLACES = 7;
        private static final int BEATS_OF_SAMPLE = 16;
        private static final int BEATS_OF_WAVE = 72;
        private static final int BEATS_OF_MIX = 81;

        private final Sound tones;
        private final Waves synth;
        final Ring samples = new Ring();
        final Ring mixes = new Ring();
        private final long[] counts = new long[PLACES];
        private final long[] kept = new long[PLACES];

        Clock(Sound tones, Waves synth) {
            this.tones = tones;
            this.synth = synth;
        }

        void keep() {
            System.arraycopy(counts, 0, kept, 0, PLACES);
            samples.keep();
            mixes.keep();
        }

        void bringBack() {
            System.arraycopy(kept, 0, counts, 0, PLACES);
            samples.bringBack();
            mixes.bringBack();
        }

        long count(int k) {
            return k >= 0 && k < PLACES ? counts[k] : 0;
        }

        void countPicture() {
            counts[PICTURES]++;
        }

        /** A step's beats go by. */
        void pass(int beats) {
            long before = counts[BEATS];
            long now = before + beats;
            counts[BEATS] = now;
            counts[STEPS]++;
            for (long i = before / BEATS_OF_SAMPLE; i < now / BEATS_OF_SAMPLE; i++) {
                addSample();
            }
            for (long i = before / BEATS_OF_WAVE; i < now / BEATS_OF_WAVE; i++) {
                synth.makeNext();
            }
            for (long i = before / BEATS_OF_MIX; i < now / BEATS_OF_MIX; i++) {
                addMix();
            }
        }

        private void addSample() {
            int sample = tones.nextSample();
            samples.add(sample);
            counts[SAMPLES]++;
            counts[LEFT] += sample >> 16;
            counts[RIGHT] += sample & 0xffff;
            counts[SUMMED]++;
        }

        private void addMix() {
            long many = Math.max(1, counts[SUMMED]);
            long left = counts[LEFT] / many + synth.heard();
            long right = counts[RIGHT] / many + synth.heard();
            mixes.add(65536 * left + right);
            counts[LEFT] = 0;
            counts[RIGHT] = 0;
            counts[SUMMED] = 0;
        }
    }

    /** Break points, plans, and the trace. */
    private static final class Desk {
        static final int MOST_STOPS = 8;
        static final int MOST_PLANS = 256;
        private static final int MOST_STEPS_BACK = 32;
        // Behind the eight places of break points: how many there are.
        private static final int STOPS = 8;
        // Behind the places of plans, three for each: which one is first, how many there are.
        private static final int FIRST_PLAN = 768;
        private static final int PLANS = 769;

        private final int[] stops = new int[MOST_STOPS + 1];
        private final int[] stopsKept = new int[MOST_STOPS + 1];
        private final int[] plans = new int[3 * MOST_PLANS + 2];
        private final int[] plansKept = new int[3 * MOST_PLANS + 2];
        private final int[] steps = new int[MOST_STEPS_BACK];
        private int nextStep;

        Desk() {
            Arrays.fill(steps, -1);
        }

        void keep() {
            System.arraycopy(stops, 0, stopsKept, 0, stops.length);
            System.arraycopy(plans, 0, plansKept, 0, plans.length);
        }

        void bringBack() {
            System.arraycopy(stopsKept, 0, stops, 0, stops.length);
            System.arraycopy(plansKept, 0, plans, 0, plans.length);
        }

        void noteStep(int pc) {
            steps[nextStep & MOST_STEPS_BACK - 1] = pc;
            nextStep = nextStep + 1 & MOST_STEPS_BACK - 1;
        }

        int stepBack(int k) {
            return k < 0 || k >= MOST_STEPS_BACK ? -1 : steps[nextStep - 1 - k & MOST_STEPS_BACK - 1];
        }

        int stopCount() {
            return stops[STOPS];
        }

        boolean isStop(int address) {
            return placeOfStop(address) >= 0;
        }

        private int placeOfStop(int address) {
            for (int i = 0; i < MOST_STOPS && i < stops[STOPS]; i++) {
                if (stops[i] == address) {
                    return i;
                }
            }
            return -1;
        }

        int stopsBeside(int address) {
            return stops[STOPS] - (isStop(address) ? 1 : 0);
        }

        int changeStop(int address, boolean is) {
            int count = stops[STOPS];
            int place = placeOfStop(address);
            if (is && place < 0 && count < MOST_STOPS) {
                stops[count] = address;
                stops[STOPS] = count + 1;
            } else if (!is && place >= 0) {
                stops[place] = stops[count - 1 & MOST_STOPS - 1];
                stops[STOPS] = count - 1;
            }
            return stops[STOPS];
        }

        int plansWaiting() {
            return plans[PLANS];
        }

        private int placeOfPlan(int k) {
            return 3 * (plans[FIRST_PLAN] + k & MOST_PLANS - 1);
        }

        /** The least number that a plan more may have. */
        int leastPlan() {
            return plans[PLANS] == 0 ? 0 : plans[placeOfPlan(plans[PLANS] - 1)];
        }

        int addPlan(int number, int pad, int buttons) {
            int at = placeOfPlan(plans[PLANS]);
            plans[at] = number;
            plans[at + 1] = pad;
            plans[at + 2] = buttons;
            plans[PLANS]++;
            return plans[PLANS];
        }

        void carryOutPlans(long pictures, Ports ports) {
            for (int i = 0; i < MOST_PLANS && plans[PLANS] > 0; i++) {
                int at = placeOfPlan(0);
                if (plans[at] > pictures) {
                    break;
                }
                ports.holdButtons(plans[at + 1], plans[at + 2]);
                plans[FIRST_PLAN] = plans[FIRST_PLAN] + 1 & MOST_PLANS - 1;
                plans[PLANS]--;
            }
        }
    }

    /**
     * Writes TEXT by patterns: small letters and signs stand for themselves, large letters for what the op tells.
     * Semicolons part the patterns of a list; y tells which one is meant, modulo how many there are.
     */
    private static final class Teller {
        private static final int MOST_SIGNS = 32;
        private static final String DIGITS = "0123456789abcdef";
        private static final String ONES = "b;c;d;e;h;l;(hl);a";
        private static final String PAIRS = "bc;de;hl;sp";
        private static final String STACK_PAIRS = "bc;de;hl;af";
        private static final String CONDITIONS = "nz;z;nc;c;po;pe;p;m";

        private final Memory memory;
        private final int[] signs = new int[MOST_SIGNS];
        int length;
        private int at;
        private int count;
        private int x;
        private int y;
        private int z;
        // 0 without a prefix, else the second letter of ix or iy.
        private int prefix;
        // Whether (ix+d) is in the text, so that h and l are themselves.
        private boolean beside;
        // d of an op behind a prefix and CB, which comes ahead of that op.
        private int early;

        Teller(Memory memory) {
            this.memory = memory;
        }

        /** TEXT becomes the instruction at an address: how many bytes it has. */
        int write(int address) {
            at = address & 0xffff;
            count = 0;
            length = 0;
            prefix = 0;
            beside = false;
            int op = take();
            if (op == 0xdd || op == 0xfd) {
                int next = memory.read(at + 1);
                if (next == 0xdd || next == 0xed || next == 0xfd) {
                    put("nop");
                    return count;
                }
                prefix = op == 0xdd ? 'x' : 'y';
                op = take();
                beside = Processor.meansPlace(op);
            }
            put(patternsOf(op));
            return count;
        }

        private int take() {
            int v = memory.read(at + count);
            count++;
            return v;
        }

        private void split(int op) {
            x = op >> 6;
            y = op >> 3 & 7;
            z = op & 7;
        }

        long eightFrom(int k) {
            long v = 0;
            for (int i = 7; i >= 0; i--) {
                int sign = k >= 0 && k < length - i ? signs[k + i] : 0;
                v = v << 8 | sign;
            }
            return v;
        }

        private String patternsOf(int op) {
            if (op == 0xcb) {
                early = prefix == 0 ? 0 : take();
                split(take());
                return turnPatterns();
            }
            if (op == 0xed) {
                split(take());
                return x == 2 ? blockPatterns() : morePatterns();
            }
            split(op);
            switch (x) {
                case 0: return firstPatterns();
                case 1: return op == 0x76 ? "halt" : "ld Y,Z";
                case 2: return "add Z;adc Z;sub Z;sbc Z;and Z;xor Z;or Z;cp Z";
                default: return lastPatterns();
            }
        }

        private String firstPatterns() {
            switch (z) {
                case 0: return "nop;ex af,af2;djnz E;jr E;jr D,E;jr D,E;jr D,E;jr D,E";
                case 1: return "ld P,W;add J,P";
                case 2: return "ld (bc),a;ld a,(bc);ld (de),a;ld a,(de);ld (W),J;ld J,(W);ld (W),a;ld a,(W)";
                case 3: return "inc P;dec P";
                case 4: return "inc Y";
                case 5: return "dec Y";
                case 6: return "ld Y,N";
                default: return "rlca;rrca;rla;rra;daa;cpl;scf;ccf";
            }
        }

        private String lastPatterns() {
            switch (z) {
                case 0: return "ret C";
                case 1: return "pop Q;ret;pop Q;exx;pop Q;jp (J);pop Q;ld sp,J";
                case 2: return "jp C,W";
                case 3: return "jp W;;out (N),a;in a,(N);ex (sp),J;ex de,J;di;ei";
                case 4: return "call C,W";
                case 5: return "push Q;call W";
                case 6: return "add N;adc N;sub N;sbc N;and N;xor N;or N;cp N";
                default: return "rst V";
            }
        }

        private String turnPatterns() {
            switch (x) {
                case 0: return "rlc T;rrc T;rl T;rr T;sla T;sra T;sll T;srl T";
                case 1: return "bit B,T";
                case 2: return "res B,T";
                default: return "set B,T";
            }
        }

        private String blockPatterns() {
            switch (y < 4 ? 7 : z) {
                case 0: return "ldi;ldd;ldir;lddr";
                case 1: return "cpi;cpd;cpir;cpdr";
                case 2: return "ini;ind;inir;indr";
                case 3: return "outi;outd;otir;otdr";
                default: return "nop";
            }
        }

        private String morePatterns() {
            if (x != 1) {
                return "nop";
            }
            switch (z) {
                case 0: return y == 6 ? "in (c)" : "in Y,(c)";
                case 1: return y == 6 ? "out (c),0" : "out (c),Y";
                case 2: return "sbc hl,P;adc hl,P";
                case 3: return "ld (W),P;ld P,(W)";
                case 4: return "neg";
                case 5: return y == 1 ? "reti" : "retn";
                case 6: return "im 0;im 0;im 1;im 2";
                default: return "ld i,a;ld r,a;ld a,i;ld a,r;rrd;rld;nop;nop";
            }
        }

        private void put(String patterns) {
            int parts = 1;
            for (int i = 0; i < patterns.length(); i++) {
                parts += patterns.charAt(i) == ';' ? 1 : 0;
            }
            int part = 0;
            for (int i = 0; i < patterns.length(); i++) {
                int sign = patterns.charAt(i);
                if (sign == ';') {
                    part++;
                } else if (part == y % parts) {
                    if (sign >= 'A' && sign <= 'Z') {
                        putMeant(sign);
                    } else {
                        putSign(sign);
                    }
                }
            }
        }

        private void putSign(int sign) {
            if (length < MOST_SIGNS) {
                signs[length] = sign;
                length++;
            }
        }

        private void putMeant(int letter) {
            switch (letter) {
                case 'Y': putOne(y); break;
                case 'Z': putOne(z); break;
                case 'T': putTurned(); break;
                case 'P': putPair(PAIRS); break;
                case 'Q': putPair(STACK_PAIRS); break;
                case 'J': putHl(); break;
                case 'C': putName(CONDITIONS, y); break;
                case 'D': putName(CONDITIONS, y - 4); break;
                case 'B': putSign('0' + y); break;
                case 'V': putByte(8 * y); break;
                case 'N': putByte(take()); break;
                case 'W': putWord(take() | take() << 8); break;
                default: putWord((byte) take() + at + count); break;
            }
        }

        /** Puts the k-th name of a list. */
        private void putName(String names, int k) {
            int part = 0;
            for (int i = 0; i < names.length(); i++) {
                if (names.charAt(i) == ';') {
                    part++;
                } else if (part == k) {
                    putSign(names.charAt(i));
                }
            }
        }

        private void putOne(int k) {
            if (k == 6 && prefix != 0) {
                putPlace(take());
            } else if ((k == 4 || k == 5) && prefix != 0 && !beside) {
                putHl();
                putSign(k == 4 ? 'h' : 'l');
            } else {
                putName(ONES, k);
            }
        }

        private void putTurned() {
            if (prefix == 0) {
                putName(ONES, z);
                return;
            }
            putPlace(early);
            if (x != 1 && z != 6) {
                putSign(',');
                putName(ONES, z);
            }
        }

        private void putPair(String names) {
            if (y >> 1 == 2) {
                putHl();
            } else {
                putName(names, y >> 1);
            }
        }

        private void putHl() {
            putSign(prefix == 0 ? 'h' : 'i');
            putSign(prefix == 0 ? 'l' : prefix);
        }

        private void putPlace(int d) {
            putSign('(');
            putHl();
            putSign(d < 128 ? '+' : '-');
            putByte(d < 128 ? d : 256 - d);
            putSign(')');
        }

        private void putByte(int v) {
            putSign(DIGITS.charAt(v >> 4 & 15));
            putSign(DIGITS.charAt(v & 15));
        }

        private void putWord(int w) {
            putByte(w >> 8 & 255);
            putByte(w & 255);
        }
    }
}
