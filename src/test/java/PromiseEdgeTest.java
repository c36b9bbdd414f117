import java.util.function.Consumer;

/** Promises 1 to 13 at their edges, a method for each sentence, whose words stand above it. */
public final class PromiseEdgeTest {
    private static final Class<IllegalArgumentException> ILLEGAL = IllegalArgumentException.class;
    private static final Class<IndexOutOfBoundsException> OUTSIDE = IndexOutOfBoundsException.class;
    private static final Class<IllegalStateException> STATE = IllegalStateException.class;
    private static final Class<UnsupportedOperationException> LOCK = UnsupportedOperationException.class;
    private static final int[] FAR = {Integer.MIN_VALUE, -0x10000, -256, 0x20000, 0x7FFFFFF9, Integer.MAX_VALUE};

    public static void main(String[] args) {
        usedForItsLastCall();
        newObject();
        romCount();
        romBanks();
        romPlaces();
        romOrderOfRefusals();
        insertKinds();
        insertHeaderPlaces();
        insertCheckOctet();
        insertRefused();
        insertKeepsRam();
        runCount();
        runHaltsAndInterrupts();
        runNothingIn();
        runLocks();
        runIsLocked();
        setPlaces();
        setLowestBits();
        registerPlaces();
        readAddresses();
        writeCount();
        writeAddresses();
        writeOneIsBeyond();
        keysMask();
        keysNew();
        rowNumbers();
        pixelPlaces();
        pixelsBefore();
        countPlaces();
        countsSinceReset();
        countsNothingIn();
        speedWithoutCycles();
        speedFrames();
        Check.finish("PromiseEdgeTest");
    }

    private static void refusedWhenBusy(String what, Class<? extends RuntimeException> due, Consumer<TileConsole> call) {
        State.refusal(what, due, State::busy, call);
    }

    // "An object is used for at most 512 calls after it has been made"
    private static void usedForItsLastCall() {
        TileConsole x = new TileConsole();
        x.rom(0, 0x14D, 1, 231);
        x.rom(0, 0x100, 3, 0x0100C3);
        x.insert(0);
        for (int call = 4; call <= 510; call++) {
            Check.equal("call " + call, 400, x.run(100));
        }
        Check.equal("call 511", 507 * 400, x.count(Check.CYCLES));
        Check.equalDouble("call 512", 1048576.0 / 202800 * 11, x.speed());
    }

    // Promise 1, "Not IN; all 0; RESET."
    private static void newObject() {
        TileConsole x = new TileConsole();
        Check.refuses("new: not IN", STATE, () -> x.run(1));
        for (int address = 0; address < 0x8000; address += 0xFFF) {
            Check.equal("new: ROM at " + address, 0, x.read(address));
        }
        int[] firsts = {0x8000, 0xC000, 0xFE00, 0xFF80};
        int[] lasts = {0x9FFF, 0xFDFF, 0xFE9F, 0xFFFE};
        for (int i = 0; i < firsts.length; i++) {
            int step = Math.max(1, (lasts[i] - firsts[i]) / 9);
            for (int address = firsts[i]; address <= lasts[i]; address += step) {
                Check.equal("new: at " + address, 0, x.read(address));
            }
            Check.equal("new: at " + lasts[i], 0, x.read(lasts[i]));
        }
        Check.equal("new: pixel 0", 0, x.pixel(0));
        Check.equal("new: pixel 159", 0, x.pixel(159));
        Check.equal("new: no key", 0, x.keys(0));
        Check.registers("new: RESET", x, 1, 0xB0, 0, 0x13, 0, 0xD8, 1, 0x4D, 0xFFFE, 0x100);
        Check.equal("new: LCDC", 0x91, x.read(0xFF40));
        Check.equal("new: BGP", 0xFC, x.read(0xFF47));
        Check.equal("new: IF", 0xE1, x.read(0xFF0F));
        newRam();
    }

    // "4 RAM BANKS of 256, at first 0"
    private static void newRam() {
        TileConsole x = Check.console(3);
        Check.put(x, 0, 10);
        for (int bank = 0; bank < 4; bank++) {
            Check.put(x, 0x4000, bank);
            Check.equal("new: RAM BANK " + bank, 0, x.read(0xA000) | x.read(0xA0FF));
        }
    }

    // Promise 2, "The lowest n (1..8) OCTETS of w, the lowest first ... : n"; "IllegalArgumentException: n"
    private static void romCount() {
        for (int n = 1; n <= 8; n++) {
            TileConsole x = new TileConsole();
            Check.equal("rom of " + n, n, x.rom(0, 0x20, n, 0x8877665544332211L));
            Check.equal("rom of " + n + ": before", 0, x.read(0x1F));
            for (int i = 0; i <= 8; i++) {
                Check.equal("rom of " + n + ": octet " + i, i < n ? 0x11 * (i + 1) : 0, x.read(0x20 + i));
            }
        }
        refusedWhenBusy("rom of 0", ILLEGAL, x -> x.rom(0, 0, 0, -1));
        refusedWhenBusy("rom of 9", ILLEGAL, x -> x.rom(0, 0, 9, -1));
        refusedWhenBusy("rom of -1", ILLEGAL, x -> x.rom(0, 0, -1, -1));
        for (int n : FAR) {
            refusedWhenBusy("rom of " + n, ILLEGAL, x -> x.rom(0, 0, n, -1));
        }
    }

    // Promise 2, "into ROM BANK b"; "IllegalArgumentException: ... b is not 0..7"
    private static void romBanks() {
        TileConsole x = Check.console(3);
        for (int b = 0; b < 8; b++) {
            Check.equal("rom to bank " + b, 2, x.rom(b, 1022, 2, 0x0101 * (b + 1)));
        }
        for (int b = 0; b < 8; b++) {
            Check.put(x, 0x2000, b);
            Check.equal("bank " + b, b + 1, x.read(0x43FE));
            Check.equal("bank " + b + ", its end", b + 1, x.read(0x43FF));
            Check.equal("bank " + b + ", its beginning", 0, x.read(0x4000));
        }
        refusedWhenBusy("bank -1", ILLEGAL, y -> y.rom(-1, 1023, 1, -1));
        refusedWhenBusy("bank 8", ILLEGAL, y -> y.rom(8, 0, 1, -1));
        for (int b : FAR) {
            refusedWhenBusy("bank " + b, ILLEGAL, y -> y.rom(b, 0, 1, -1));
        }
    }

    // Promise 2, "IndexOutOfBoundsException: they do not go there."
    private static void romPlaces() {
        for (int n = 1; n <= 8; n++) {
            int count = n;
            TileConsole x = new TileConsole();
            Check.equal("the first place for " + n, n, x.rom(1, 0, n, -1));
            Check.equal("the last place for " + n, n, x.rom(0, 1024 - n, n, 0x0807060504030201L));
            Check.equal("its last octet", n, x.read(1023));
            Check.equal("it begins there", 1, x.read(1024 - n));
            refusedWhenBusy("the first that is too far for " + n, OUTSIDE, y -> y.rom(0, 1025 - count, count, -1));
            refusedWhenBusy("before the first for " + n, OUTSIDE, y -> y.rom(1, -1, count, -1));
        }
        refusedWhenBusy("all of it outside", OUTSIDE, x -> x.rom(0, 1024, 1, -1));
        refusedWhenBusy("all of it before", OUTSIDE, x -> x.rom(1, -8, 8, -1));
        for (int at : FAR) {
            refusedWhenBusy("at " + at, OUTSIDE, x -> x.rom(1, at, 8, -1));
        }
    }

    // Promise 2: what is wrong with the arguments comes before whether they go there.
    private static void romOrderOfRefusals() {
        refusedWhenBusy("n and at", ILLEGAL, x -> x.rom(0, -1, 0, -1));
        refusedWhenBusy("b and at", ILLEGAL, x -> x.rom(8, 1024, 1, -1));
    }

    // Promise 3, "IllegalArgumentException: kind is not 0..3."
    private static void insertKinds() {
        for (int kind = 0; kind <= 3; kind++) {
            TileConsole x = new TileConsole();
            x.rom(0, 0x14D, 1, 231);
            Check.equal("kind " + kind, 1, x.insert(kind));
            Check.equal("kind " + kind + " is IN", 1, x.count(Check.HIGH_BANK));
        }
        refusedWhenBusy("kind -1", ILLEGAL, x -> x.insert(-1));
        refusedWhenBusy("kind 4", ILLEGAL, x -> x.insert(4));
        for (int kind : FAR) {
            refusedWhenBusy("kind " + kind, ILLEGAL, x -> x.insert(kind));
        }
        State.refusal("kind 4 with a wrong header", ILLEGAL, TileConsole::new, x -> x.insert(4));
    }

    // Promise 3, "for those of 0x134 to 0x14C of ROM BANK 0"
    private static void insertHeaderPlaces() {
        int[] counted = {0x134, 0x135, 0x14B, 0x14C};
        for (int at : counted) {
            TileConsole x = new TileConsole();
            x.rom(0, 0x14D, 1, 231);
            x.rom(0, at, 1, 0x80);
            Check.refuses("counted: " + at, STATE, () -> x.insert(0));
            x.rom(0, 0x14D, 1, 231 - 0x80);
            Check.equal("counted once: " + at, 1, x.insert(0));
        }
        int[] others = {0x133, 0x14E};
        for (int at : others) {
            TileConsole x = new TileConsole();
            x.rom(0, 0x14D, 1, 231);
            x.rom(0, at, 1, 0x80);
            Check.equal("not counted: " + at, 1, x.insert(0));
        }
        TileConsole x = new TileConsole();
        x.rom(1, 0x14D, 1, 231);
        Check.refuses("not ROM BANK 1", STATE, () -> x.insert(0));
    }

    // Promise 3, "x & 255 is not OCTET 0x14D": x is far below 0 where all are 255.
    private static void insertCheckOctet() {
        for (int check = 0; check < 256; check++) {
            TileConsole x = new TileConsole();
            x.rom(0, 0x134, 8, -1);
            x.rom(0, 0x13C, 8, -1);
            x.rom(0, 0x144, 8, -1);
            x.rom(0, 0x14C, 2, 0xFF | check << 8);
            if (check == 0) {
                Check.equal("25 times 256 less", 1, x.insert(0));
            } else {
                Check.refuses("check " + check, STATE, () -> x.insert(0));
            }
        }
    }

    // Promise 3, "(Nothing is done then.)"
    private static void insertRefused() {
        refusedWhenBusy("header", STATE, x -> {
            x.rom(0, 0x150, 1, 0);
            x.rom(0, 0x14C, 1, 1);
            try {
                x.insert(0);
            } finally {
                x.rom(0, 0x14C, 1, 0);
            }
        });
        State.refusal("header, nothing IN", STATE, TileConsole::new, x -> x.insert(0));
        State.refusal("header, LOCKED", STATE, PromiseEdgeTest::lockedWithWrongHeader, x -> x.insert(0));
        TileConsole x = new TileConsole();
        Check.refuses("header 0", STATE, () -> x.insert(1));
        Check.refuses("it is not IN", STATE, () -> x.run(1));
        Check.put(x, 0, 10);
        Check.equal("nor ON", 0, x.count(Check.RAM_ON));
    }

    private static TileConsole lockedWithWrongHeader() {
        TileConsole x = locked();
        x.rom(0, 0x14D, 1, 0);
        return x;
    }

    private static TileConsole locked() {
        TileConsole x = Check.program(0x3C, 0xFD);
        Check.refuses("it LOCKS", LOCK, () -> x.run(2));
        return x;
    }

    // Promise 3, "(RAM, and what keys are down, stay)"
    private static void insertKeepsRam() {
        TileConsole x = Check.console(3);
        x.keys(0xFF);
        for (int bank = 0; bank < 4; bank++) {
            Check.put(x, 0x0000, 10);
            Check.put(x, 0x4000, bank);
            Check.put(x, 0xA000, 0x10 + bank);
            Check.put(x, 0xA0FF, 0x20 + bank);
            x.insert(3);
        }
        Check.put(x, 0x0000, 10);
        for (int bank = 0; bank < 4; bank++) {
            Check.put(x, 0x4000, bank);
            Check.equal("RAM BANK " + bank + " stays", 0x10 + bank, x.read(0xA000));
            Check.equal("RAM BANK " + bank + " stays, its end", 0x20 + bank, x.read(0xA0FF));
        }
        Check.equal("the keys stay", 0xFF, x.keys(0xFF));
        Check.equal("no key was new", 0xE1, x.read(0xFF0F));
    }

    // Promise 4, "Up to n (1..100) INSTRUCTIONS"; "IllegalArgumentException: n."
    private static void runCount() {
        TileConsole x = Check.program(0x3C, 0x18, 0xFD);
        x.set(Check.A, 0);
        Check.equal("run(1)", 1, x.run(1));
        Check.equal("run(1): done", 1, x.count(Check.DONE));
        Check.equal("run(100)", 200, x.run(100));
        Check.equal("run(100): done", 101, x.count(Check.DONE));
        Check.equal("run(100): A", 51, x.register(Check.A));
        refusedWhenBusy("run(0)", ILLEGAL, y -> y.run(0));
        refusedWhenBusy("run(101)", ILLEGAL, y -> y.run(101));
        refusedWhenBusy("run(-1)", ILLEGAL, y -> y.run(-1));
        for (int n : FAR) {
            refusedWhenBusy("run(" + n + ")", ILLEGAL, y -> y.run(n));
        }
        State.refusal("run(0), nothing IN", ILLEGAL, TileConsole::new, y -> y.run(0));
        State.refusal("run(101), LOCKED", ILLEGAL, PromiseEdgeTest::locked, y -> y.run(101));
    }

    // Promise 4, "(also those that HALT, or that interrupts take)"
    private static void runHaltsAndInterrupts() {
        TileConsole x = Check.program(0x76);
        Check.equal("HALT is one of 100", 100, x.run(100));
        Check.equal("99 more were passed over", 0xC001, x.register(Check.PC));
        TileConsole y = Check.program(0xFB, 0x00);
        y.set(Check.SP, 0xC300);
        Check.put(y, 0xFFFF, 1);
        Check.put(y, 0xFF0F, 1);
        Check.equal("the interrupt is the third of three", 7, y.run(3));
        Check.equal("and nothing behind it", 0x40, y.register(Check.PC));
    }

    // Promise 4, "IllegalStateException: nothing is IN."
    private static void runNothingIn() {
        State.refusal("run(1), nothing IN", STATE, TileConsole::new, x -> x.run(1));
        State.refusal("run(100), nothing IN", STATE, TileConsole::new, x -> x.run(100));
        TileConsole x = new TileConsole();
        x.rom(0, 0x14D, 1, 231);
        x.insert(0);
        Check.equal("when it is IN", 1, x.run(1));
    }

    // Promise 4, "UnsupportedOperationException: it LOCKS (that INSTRUCTION has no CYCLES, PC stays behind it)"
    private static void runLocks() {
        TileConsole first = Check.program(0xE4);
        Check.refuses("the first LOCKS", LOCK, () -> first.run(1));
        Check.equal("no CYCLES", 0, first.count(Check.CYCLES));
        Check.equal("PC is behind", 0xC001, first.register(Check.PC));
        TileConsole last = Check.program(0x3C, 0x18, 0xFD);
        last.run(98);
        Check.put(last, 0xC003, 0xEC);
        Check.put(last, 0xC002, 0x00);
        Check.equal("up to it", 4, last.run(2));
        Check.refuses("then it LOCKS", LOCK, () -> last.run(100));
        Check.equal("CYCLES before it stay", 200, last.count(Check.CYCLES));
        Check.equal("INSTRUCTIONS before it stay", 100, last.count(Check.DONE));
        Check.equal("no CYCLE of its own came to S", 200 / 64, last.read(0xFF04));
        TileConsole end = Check.program(0);
        Check.put(end, 0xFFFF, 0xD3);
        end.set(Check.PC, 0xFFFF);
        Check.refuses("at 0xFFFF", LOCK, () -> end.run(1));
        Check.equal("PC comes round behind it", 0, end.register(Check.PC));
    }

    // Promise 4, "or is LOCKED."
    private static void runIsLocked() {
        State.refusal("LOCKED", LOCK, PromiseEdgeTest::locked, x -> x.run(1));
        State.refusal("LOCKED, 100", LOCK, PromiseEdgeTest::locked, x -> x.run(100));
        TileConsole x = locked();
        Check.put(x, 0xC001, 0x3C);
        x.set(Check.PC, 0xC001);
        Check.refuses("another INSTRUCTION there helps nothing", LOCK, () -> x.run(1));
        Check.equal("PC stays", 0xC001, x.register(Check.PC));
        x.insert(0);
        Check.equal("RESET helps", 1, x.run(1));
    }

    // Promise 5, "REGISTER k: 0 A ... 9 PC"; "IllegalArgumentException: k is not 0..9."
    private static void setPlaces() {
        for (int k = 0; k <= 9; k++) {
            TileConsole x = new TileConsole();
            int[] due = {1, 0xB0, 0, 0x13, 0, 0xD8, 1, 0x4D, 0xFFFE, 0x100};
            Check.equal("set(" + k + ") answers what it was", due[k], x.set(k, 0x60));
            due[k] = 0x60;
            Check.registers("set(" + k + ") alone", x, due);
        }
        refusedWhenBusy("set(-1)", ILLEGAL, x -> x.set(-1, 5));
        refusedWhenBusy("set(10)", ILLEGAL, x -> x.set(10, 5));
        for (int k : FAR) {
            refusedWhenBusy("set(" + k + ")", ILLEGAL, x -> x.set(k, 5));
        }
    }

    // Promise 5, "is v (its lowest bits)"; "(others are 0 always)" for F
    private static void setLowestBits() {
        int[] values = {0, 255, 256, 0x1FF, 0xFFFF, 0x10000, 0x1FFFF, -1, -256, Integer.MIN_VALUE, Integer.MAX_VALUE};
        TileConsole x = new TileConsole();
        for (int v : values) {
            for (int k = 0; k <= 9; k++) {
                x.set(k, v);
                Check.equal("set(" + k + ", " + v + ")", v & (k == 1 ? 0xF0 : k < 8 ? 0xFF : 0xFFFF), x.register(k));
            }
        }
    }

    // Promise 6, "IllegalArgumentException likewise."
    private static void registerPlaces() {
        refusedWhenBusy("register(-1)", ILLEGAL, x -> x.register(-1));
        refusedWhenBusy("register(10)", ILLEGAL, x -> x.register(10));
        for (int k : FAR) {
            refusedWhenBusy("register(" + k + ")", ILLEGAL, x -> x.register(k));
        }
    }

    // Promise 7, "IllegalArgumentException: it is not 0..0xFFFF."
    private static void readAddresses() {
        TileConsole x = Check.console(0);
        x.rom(0, 0, 1, 0x71);
        Check.put(x, 0xFFFF, 0x72);
        Check.equal("read(0)", 0x71, x.read(0));
        Check.equal("read(0xFFFF)", 0x72, x.read(0xFFFF));
        refusedWhenBusy("read(-1)", ILLEGAL, y -> y.read(-1));
        refusedWhenBusy("read(0x10000)", ILLEGAL, y -> y.read(0x10000));
        for (int address : FAR) {
            refusedWhenBusy("read(" + address + ")", ILLEGAL, y -> y.read(address));
        }
    }

    // Promise 8, "n (1..8) OCTETS are written ... the lowest of w first; how many."; "IllegalArgumentException: n"
    private static void writeCount() {
        for (int n = 1; n <= 8; n++) {
            TileConsole x = new TileConsole();
            Check.equal("write of " + n, n, x.write(0xC020, n, 0x8877665544332211L));
            Check.equal("write of " + n + ": before", 0, x.read(0xC01F));
            for (int i = 0; i <= 8; i++) {
                Check.equal("write of " + n + ": octet " + i, i < n ? 0x11 * (i + 1) : 0, x.read(0xC020 + i));
            }
        }
        refusedWhenBusy("write of 0", ILLEGAL, x -> x.write(0xC000, 0, -1));
        refusedWhenBusy("write of 9", ILLEGAL, x -> x.write(0xC000, 9, -1));
        refusedWhenBusy("write of -1", ILLEGAL, x -> x.write(0xC000, -1, -1));
        for (int n : FAR) {
            refusedWhenBusy("write of " + n, ILLEGAL, x -> x.write(0xC000, n, -1));
        }
    }

    // Promise 8, "from an ADDRESS on": the first and the last.
    private static void writeAddresses() {
        TileConsole x = Check.console(3);
        Check.equal("write(0)", 1, x.write(0, 1, 10));
        Check.equal("RAM is ON by it", 1, x.count(Check.RAM_ON));
        Check.equal("write(0) of eight", 8, x.write(0, 8, 0x0A00000000000000L));
        Check.equal("the eighth comes last", 1, x.count(Check.RAM_ON));
        Check.equal("write(0) of eight", 8, x.write(0, 8, 0x000A0A0A0A0A0A0AL));
        Check.equal("the eighth comes last, too", 0, x.count(Check.RAM_ON));
        Check.equal("write(0xFFFF)", 1, x.write(0xFFFF, 1, 0x99));
        Check.equal("IE", 0x99, x.read(0xFFFF));
        refusedWhenBusy("write(-1)", ILLEGAL, y -> y.write(-1, 1, -1));
        refusedWhenBusy("write(-1) of eight", ILLEGAL, y -> y.write(-1, 8, 0));
        refusedWhenBusy("write(0x10000)", ILLEGAL, y -> y.write(0x10000, 1, -1));
        for (int address : FAR) {
            refusedWhenBusy("write(" + address + ")", ILLEGAL, y -> y.write(address, 8, -1));
        }
    }

    // Promise 8, "IllegalArgumentException: ... or one is not 0..0xFFFF."
    private static void writeOneIsBeyond() {
        for (int n = 1; n <= 8; n++) {
            int count = n;
            TileConsole x = Check.console(0);
            Check.equal("the last " + n, n, x.write(0x10000 - n, n, 0x0807060504030201L));
            Check.equal("IE is the last of " + n, n, x.read(0xFFFF));
            refusedWhenBusy("one of " + n + " is beyond", ILLEGAL, y -> y.write(0x10001 - count, count, -1));
        }
    }

    // Promise 9, "the mask (0..255 ...)"; "IllegalArgumentException: mask."
    private static void keysMask() {
        TileConsole x = new TileConsole();
        Check.equal("keys(255)", 0, x.keys(255));
        Check.equal("all are down", 0xC0, x.read(0xFF00));
        Check.equal("keys(0)", 255, x.keys(0));
        Check.equal("none is down", 0xCF, x.read(0xFF00));
        Check.equal("none was", 0, x.keys(0));
        refusedWhenBusy("keys(-1)", ILLEGAL, y -> y.keys(-1));
        refusedWhenBusy("keys(256)", ILLEGAL, y -> y.keys(256));
        for (int mask : FAR) {
            refusedWhenBusy("keys(" + mask + ")", ILLEGAL, y -> y.keys(mask));
        }
    }

    // Promise 9, "if one is that was not: IF has bit 4."
    private static void keysNew() {
        int[][] steps = {{0, 0}, {1, 1}, {1, 0}, {0, 0}, {128, 1}, {129, 1}, {1, 0}, {2, 1}, {255, 1}, {255, 0}, {254, 0}};
        TileConsole x = new TileConsole();
        for (int[] step : steps) {
            Check.put(x, 0xFF0F, 0);
            x.keys(step[0]);
            Check.equal("keys(" + step[0] + "): IF", 0xE0 | 16 * step[1], x.read(0xFF0F));
        }
        Check.put(x, 0xFF0F, 0x1F);
        x.keys(255);
        Check.equal("IF's bits stay", 0xFF, x.read(0xFF0F));
    }

    // Promise 10, "the sum of its PIXELS"; "IllegalArgumentException: y is not 0..143."
    private static void rowNumbers() {
        TileConsole x = new TileConsole();
        Check.equal("row(0), all 0", 0, x.row(0));
        Check.put(x, 0xFF47, 3);
        Check.equal("row(0), all 3", 480, x.row(0));
        Check.equal("row(143), all 3", 480, x.row(143));
        refusedWhenBusy("row(-1)", ILLEGAL, y -> y.row(-1));
        refusedWhenBusy("row(144)", ILLEGAL, y -> y.row(144));
        for (int y : FAR) {
            refusedWhenBusy("row(" + y + ")", ILLEGAL, z -> z.row(y));
        }
    }

    // Promise 11, "IndexOutOfBoundsException: x is not 0..159."
    private static void pixelPlaces() {
        TileConsole x = new TileConsole();
        Check.put(x, 0xFF47, 2);
        Check.put(x, 0xFF48, 0xFF);
        Check.put(x, 0xFF40, 0x93);
        Check.putAll(x, 0x8010, 0x80, 0);
        Check.putAll(x, 0xFE00, 16, 8, 1, 0, 16, 167, 1, 0);
        Check.equal("two PIXELS of 3", 322, x.row(0));
        Check.equal("pixel(0)", 3, x.pixel(0));
        Check.equal("pixel(1)", 2, x.pixel(1));
        Check.equal("pixel(158)", 2, x.pixel(158));
        Check.equal("pixel(159)", 3, x.pixel(159));
        refusedWhenBusy("pixel(-1)", OUTSIDE, y -> y.pixel(-1));
        refusedWhenBusy("pixel(160)", OUTSIDE, y -> y.pixel(160));
        for (int at : FAR) {
            refusedWhenBusy("pixel(" + at + ")", OUTSIDE, y -> y.pixel(at));
        }
        State.refusal("pixel(160), no ROW", OUTSIDE, TileConsole::new, y -> y.pixel(160));
    }

    // Promise 11, "of the ROW that was made last (0 before)"; promise 3, "the ROW that was made last 0"
    private static void pixelsBefore() {
        TileConsole x = Check.console(0);
        Check.put(x, 0xFF47, 1);
        for (int at = 0; at < 160; at++) {
            Check.equal("before: " + at, 0, x.pixel(at));
        }
        x.row(7);
        Check.equal("then", 1, x.pixel(0));
        Check.put(x, 0xFF47, 2);
        Check.equal("still that ROW", 1, x.pixel(0));
        x.row(8);
        Check.equal("the last alone", 2, x.pixel(159));
        x.insert(0);
        Check.equal("0 after RESET", 0, x.pixel(0) + x.pixel(159));
    }

    // Promise 12, "IllegalArgumentException for others."
    private static void countPlaces() {
        refusedWhenBusy("count(-1)", ILLEGAL, x -> x.count(-1));
        refusedWhenBusy("count(9)", ILLEGAL, x -> x.count(9));
        for (int what : FAR) {
            refusedWhenBusy("count(" + what + ")", ILLEGAL, x -> x.count(what));
        }
        State.refusal("count(9), nothing IN", ILLEGAL, TileConsole::new, x -> x.count(9));
    }

    // Promise 12, "CYCLES since RESET", "INSTRUCTIONS done since RESET", "interrupts taken since RESET"
    private static void countsSinceReset() {
        TileConsole x = Check.program(0xFB, 0x00, 0x76);
        x.set(Check.SP, 0xC300);
        x.run(5);
        Check.equal("EI, nothing, HALT, two not done: CYCLES", 5, x.count(Check.CYCLES));
        Check.equal("three done", 3, x.count(Check.DONE));
        Check.equal("IME", 1, x.count(Check.IME));
        Check.equal("it HALTS", 1, x.count(Check.HALTS));
        Check.put(x, 0xFFFF, 2);
        Check.put(x, 0xFF0F, 2);
        x.run(1);
        Check.equal("interrupt: CYCLES", 10, x.count(Check.CYCLES));
        Check.equal("interrupt: taken", 1, x.count(Check.TAKEN));
        Check.equal("interrupt: IME", 0, x.count(Check.IME));
        Check.equal("interrupt: HALTS", 0, x.count(Check.HALTS));
        x.insert(0);
        for (int what = 0; what <= 8; what++) {
            Check.equal("after RESET: count " + what, what == 5 || what == 7 ? 1 : 0, x.count(what));
        }
    }

    // Promise 12, "(5 to 7: 0 if nothing is IN)"
    private static void countsNothingIn() {
        TileConsole x = new TileConsole();
        x.write(0x0000, 1, 10);
        x.write(0x2000, 1, 5);
        x.write(0x4000, 1, 3);
        x.write(0x6000, 1, 1);
        for (int what = 5; what <= 7; what++) {
            Check.equal("nothing IN: count " + what, 0, x.count(what));
        }
    }

    // Promise 13, "ArithmeticException: there were no CYCLES."
    private static void speedWithoutCycles() {
        State.refusal("new", ArithmeticException.class, TileConsole::new, x -> x.speed());
        State.refusal("IN", ArithmeticException.class, () -> Check.console(2), x -> x.speed());
        TileConsole x = Check.program(0xDB);
        Check.refuses("LOCKS", LOCK, () -> x.run(1));
        Check.refuses("what LOCKS has no CYCLES", ArithmeticException.class, () -> x.speed());
        TileConsole y = Check.program(0x00);
        y.run(1);
        Check.equalDouble("one CYCLE", 0.0, y.speed());
        y.insert(0);
        Check.refuses("none since RESET", ArithmeticException.class, () -> y.speed());
    }

    // Promise 13, "times the number of times that LY came to 144 since then."
    private static void speedFrames() {
        TileConsole x = Check.console(0);
        Check.load(x, 0x18, 0xFE);
        for (int i = 0; i < 54; i++) {
            x.run(100);
        }
        x.run(71);
        Check.equal("before LY 144", 143, x.read(0xFF44));
        Check.equalDouble("no frame yet", 0.0, x.speed());
        x.run(1);
        Check.equal("LY 144", 144, x.read(0xFF44));
        Check.equalDouble("one frame", 1048576.0 / 16416, x.speed());
        for (int i = 0; i < 58; i++) {
            x.run(100);
        }
        x.run(51);
        Check.equal("before the next", 33969, x.count(Check.CYCLES));
        Check.equalDouble("still one", 1048576.0 / 33969, x.speed());
        x.run(1);
        Check.equalDouble("two, divided first", 1048576.0 / 33972 * 2, x.speed());
    }
}
