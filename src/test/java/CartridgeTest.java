/** Promises 2 and 3 (rom, insert), the four controllers, and counts 5 to 7. */
public final class CartridgeTest {
    public static void main(String[] args) {
        romPutsLowestFirst();
        romEdges();
        romWrongInputs();
        insertWrongInputs();
        insertChecksHeader();
        insertResets();
        ramAndKeysStay();
        plain();
        one();
        two();
        three();
        ramOfTwo();
        Check.finish("CartridgeTest");
    }

    private static void romPutsLowestFirst() {
        TileConsole x = new TileConsole();
        Check.equal("rom answers n", 3, x.rom(0, 16, 3, 0x1122334455667788L));
        Check.equal("first", 0x88, x.read(16));
        Check.equal("second", 0x77, x.read(17));
        Check.equal("third", 0x66, x.read(18));
        Check.equal("no fourth", 0, x.read(19));
        Check.equal("rom of eight", 8, x.rom(0, 24, 8, -2L));
        Check.equal("first of eight", 0xFE, x.read(24));
        Check.equal("eighth", 0xFF, x.read(31));
        Check.equal("no ninth", 0, x.read(32));
    }

    private static void romEdges() {
        TileConsole x = new TileConsole();
        Check.equal("last place", 1, x.rom(0, 1023, 1, 9));
        Check.equal("last eight", 8, x.rom(0, 1016, 8, 0x0908070605040302L));
        Check.equal("place 1023", 9, x.read(1023));
        Check.equal("ten bits: 0x400 is 0", x.read(0), x.read(0x400));
        Check.equal("ten bits: 0x3FFF is 1023", 9, x.read(0x3FFF));
        Check.equal("bank 1 is another", 0, x.read(0x43FF));
        x.rom(1, 0, 1, 33);
        Check.equal("HIGH begins at 0x4000", 33, x.read(0x4000));
        Check.equal("bank 7", 1, x.rom(7, 0, 1, 1));
        Check.equal("bank 0 unchanged", 0, x.read(0));
    }

    private static void romWrongInputs() {
        TileConsole x = new TileConsole();
        Class<IllegalArgumentException> illegal = IllegalArgumentException.class;
        Class<IndexOutOfBoundsException> outside = IndexOutOfBoundsException.class;
        Check.refuses("n 0", illegal, () -> x.rom(0, 0, 0, -1));
        Check.refuses("n 9", illegal, () -> x.rom(0, 0, 9, -1));
        Check.refuses("n -1", illegal, () -> x.rom(0, 0, -1, -1));
        Check.refuses("b -1", illegal, () -> x.rom(-1, 0, 1, -1));
        Check.refuses("b 8", illegal, () -> x.rom(8, 0, 1, -1));
        Check.refuses("b before at", illegal, () -> x.rom(8, -1, 1, -1));
        Check.refuses("n before at", illegal, () -> x.rom(0, 1024, 9, -1));
        Check.refuses("at -1", outside, () -> x.rom(0, -1, 8, -1));
        Check.refuses("at 1024", outside, () -> x.rom(0, 1024, 1, -1));
        Check.refuses("at 1017 of eight", outside, () -> x.rom(0, 1017, 8, -1));
        Check.refuses("at largest", outside, () -> x.rom(0, Integer.MAX_VALUE, 8, -1));
        Check.refuses("at smallest", outside, () -> x.rom(0, Integer.MIN_VALUE, 8, -1));
        for (int at = 0; at < 8; at++) {
            Check.equal("nothing was put at " + at, 0, x.read(at));
            Check.equal("nothing was put at the end " + at, 0, x.read(1016 + at));
        }
    }

    private static void insertWrongInputs() {
        TileConsole x = new TileConsole();
        Check.refuses("header 0", IllegalStateException.class, () -> x.insert(0));
        Check.refuses("kind before header", IllegalArgumentException.class, () -> x.insert(4));
        Check.refuses("run after a refusal", IllegalStateException.class, () -> x.run(1));
        x.rom(0, 0x14D, 1, 231);
        Check.refuses("kind -1", IllegalArgumentException.class, () -> x.insert(-1));
        Check.refuses("kind 4", IllegalArgumentException.class, () -> x.insert(4));
        Check.refuses("still nothing is IN", IllegalStateException.class, () -> x.run(1));
        x.insert(1);
        Check.put(x, 0x2000, 5);
        x.set(Check.A, 77);
        x.rom(0, 0x14D, 1, 230);
        Check.refuses("header wrong", IllegalStateException.class, () -> x.insert(3));
        Check.refuses("kind wrong", IllegalArgumentException.class, () -> x.insert(9));
        Check.equal("nothing was done: A", 77, x.register(Check.A));
        Check.equal("nothing was done: HIGH", 5, x.count(Check.HIGH_BANK));
        Check.put(x, 0x2000, 32);
        Check.equal("nothing was done: KIND is ONE", 1, x.count(Check.HIGH_BANK));
    }

    private static void insertChecksHeader() {
        for (int at = 0x133; at <= 0x14E; at++) {
            TileConsole x = new TileConsole();
            x.rom(0, 0x14D, 1, 231);
            if (at == 0x14D) {
                continue;
            }
            x.rom(0, at, 1, 1);
            if (at == 0x133 || at == 0x14E) {
                Check.equal("not in the header: " + at, 1, x.insert(0));
                continue;
            }
            Check.refuses("in the header: " + at, IllegalStateException.class, () -> x.insert(0));
            x.rom(0, 0x14D, 1, 230);
            Check.equal("header with 1 at " + at, 1, x.insert(0));
        }
        TileConsole x = new TileConsole();
        x.rom(0, 0x134, 8, 0x2A2A2A2A2A2A2A2AL);
        x.rom(0, 0x14D, 1, 231 - 8 * 0x2A & 255);
        Check.equal("header with a name", 1, x.insert(2));
    }

    private static void insertResets() {
        TileConsole x = Check.console(3);
        for (int k = 0; k <= 9; k++) {
            x.set(k, 0x5A);
        }
        int[] places = {0x8000, 0x9FFF, 0xC000, 0xC3FF, 0xFE00, 0xFE9F, 0xFF80, 0xFFFE};
        int[] ports = {0xFF05, 0xFF06, 0xFF42, 0xFF43, 0xFF45, 0xFF46, 0xFF48, 0xFF49, 0xFF4A, 0xFF4B, 0xFFFF};
        Check.put(x, 0x2000, 6);
        Check.put(x, 0x4000, 2);
        Check.put(x, 0x0000, 10);
        for (int port : ports) {
            Check.put(x, port, 0x78);
        }
        Check.put(x, 0xFF00, 0x30);
        Check.put(x, 0xFF07, 5);
        Check.put(x, 0xFF41, 0x78);
        Check.put(x, 0xFF47, 0xFF);
        Check.put(x, 0xFF0F, 0);
        for (int place : places) {
            Check.put(x, place, 0x78);
        }
        x.row(0);
        Check.equal("a row was made", 3, x.pixel(159));
        Check.load(x, 0x76);
        x.run(100);
        Check.load(x, 0xFB, 0x00, 0x3C, 0xD3);
        Check.equal("insert answers 1", 1, x.insert(3));
        Check.registers("RESET", x, 1, 0xB0, 0, 0x13, 0, 0xD8, 1, 0x4D, 0xFFFE, 0x100);
        for (int place : places) {
            Check.equal("RESET: " + place, 0, x.read(place));
        }
        for (int port : ports) {
            Check.equal("RESET: port " + port, 0, x.read(port));
        }
        Check.equal("RESET: KEYS", 0xCF, x.read(0xFF00));
        Check.equal("RESET: DIV", 0, x.read(0xFF04));
        Check.equal("RESET: TAC", 0xF8, x.read(0xFF07));
        Check.equal("RESET: STAT", 0x86, x.read(0xFF41));
        Check.equal("RESET: LCDC", 0x91, x.read(0xFF40));
        Check.equal("RESET: BGP", 0xFC, x.read(0xFF47));
        Check.equal("RESET: IF", 0xE1, x.read(0xFF0F));
        Check.equal("RESET: pixel", 0, x.pixel(159));
        int[] counts = {0, 0, 0, 0, 0, 1, 0, 0, 0};
        for (int what = 0; what <= 8; what++) {
            Check.equal("RESET: count(" + what + ")", counts[what], x.count(what));
        }
        Check.refuses("RESET: speed", ArithmeticException.class, () -> x.speed());
        resetTakesBackLock();
        resetForgetsCounters();
    }

    private static void resetTakesBackLock() {
        TileConsole x = Check.program(0xFB, 0xD3);
        Check.refuses("locks", UnsupportedOperationException.class, () -> x.run(2));
        x.insert(0);
        Check.equal("LOCK is gone", 1, x.run(1));
        Check.equal("EI before RESET does nothing", 0, x.count(Check.IME));
        TileConsole y = Check.program(0xFB, 0x00, 0x76);
        y.run(3);
        Check.equal("IME before RESET", 1, y.count(Check.IME));
        Check.equal("HALT before RESET", 1, y.count(Check.HALTS));
        y.insert(0);
        Check.equal("IME after RESET", 0, y.count(Check.IME));
        Check.equal("HALT after RESET", 0, y.count(Check.HALTS));
        TileConsole z = Check.program(0xFB);
        z.run(1);
        z.insert(0);
        z.run(2);
        Check.equal("an EI from before RESET is forgotten", 0, z.count(Check.IME));
    }

    // S, DOT and the SIGNAL that was begin anew.
    private static void resetForgetsCounters() {
        TileConsole x = Check.console(0);
        Check.put(x, 0xFF41, 0x40);
        x.run(63);
        Check.equal("a SIGNAL came", 0xE3, x.read(0xFF0F));
        x.insert(0);
        x.run(63);
        Check.equal("S began at 0", 0, x.read(0xFF04));
        Check.put(x, 0xFF41, 0x40);
        x.run(1);
        Check.equal("S is 64", 1, x.read(0xFF04));
        Check.equal("SIGNAL was not", 0xE3, x.read(0xFF0F));
        x.set(Check.PC, 0x200);
        x.run(49);
        Check.equal("DOT began at 0", 0, x.read(0xFF44));
        x.run(1);
        Check.equal("DOT is 114", 1, x.read(0xFF44));
        Check.equal("a SIGNAL is now", 0xE3, x.read(0xFF0F));
        Check.put(x, 0xFF45, 1);
        x.run(1);
        x.insert(0);
        Check.equal("LY is 0 again", 0, x.read(0xFF44));
        Check.put(x, 0xFF41, 0x40);
        x.run(1);
        Check.equal("the SIGNAL from before RESET is forgotten", 0xE3, x.read(0xFF0F));
        resetForgetsInterrupts();
    }

    private static void resetForgetsInterrupts() {
        TileConsole x = Check.program(0xFB, 0x00);
        x.set(Check.SP, 0xC300);
        Check.put(x, 0xFFFF, 1);
        Check.put(x, 0xFF0F, 1);
        x.run(3);
        Check.equal("one was taken", 1, x.count(Check.TAKEN));
        x.insert(0);
        Check.equal("none since RESET", 0, x.count(Check.TAKEN));
    }

    private static void ramAndKeysStay() {
        TileConsole x = Check.console(0);
        Check.put(x, 0xA000, 99);
        x.keys(0x21);
        x.insert(0);
        Check.equal("RAM stays", 99, x.read(0xA000));
        Check.equal("IF is 1, keys or not", 0xE1, x.read(0xFF0F));
        Check.put(x, 0xFF00, 0x20);
        Check.equal("keys stay", 0xEE, x.read(0xFF00));
        Check.equal("keys answers what stayed", 0x21, x.keys(0));
    }

    private static TileConsole numbered(int kind) {
        TileConsole x = Check.console(kind);
        for (int b = 1; b < 8; b++) {
            x.rom(b, 0x155, 1, 0x40 + b);
        }
        x.rom(0, 0x155, 1, 0x40);
        return x;
    }

    private static void banks(String what, TileConsole x, int high, int ram, int on) {
        Check.equal(what + ": HIGH", high, x.count(Check.HIGH_BANK));
        Check.equal(what + ": RAM BANK", ram, x.count(Check.RAM_BANK));
        Check.equal(what + ": RAM ON", on, x.count(Check.RAM_ON));
        Check.equal(what + ": bank 0 stays", 0x40, x.read(0x3D55));
        Check.equal(what + ": octet of HIGH", 0x40 + high, x.read(0x4155));
        Check.equal(what + ": octet of HIGH at its end", 0x40 + high, x.read(0x7D55));
    }

    private static void plain() {
        TileConsole x = numbered(0);
        banks("PLAIN", x, 1, 0, 1);
        for (int address = 0; address < 0x8000; address += 0xF00) {
            Check.put(x, address, 2);
        }
        banks("PLAIN, nothing changes", x, 1, 0, 1);
        Check.put(x, 0xA0FF, 0xC3);
        Check.equal("PLAIN: RAM", 0xC3, x.read(0xA0FF));
        Check.equal("PLAIN: eight bits of the address", 0xC3, x.read(0xBFFF));
        Check.equal("PLAIN: its neighbour", 0, x.read(0xA0FE));
    }

    private static void one() {
        TileConsole x = numbered(1);
        banks("ONE at first", x, 1, 0, 0);
        int[][] asked = {{0, 1}, {1, 1}, {2, 2}, {7, 7}, {8, 0}, {9, 1}, {16, 0}, {31, 7}, {32, 1}, {0x47, 7}, {0xE0, 1}};
        for (int[] a : asked) {
            Check.put(x, 0x2000, a[0]);
            banks("ONE, A " + a[0], x, a[1], 0, 0);
        }
        Check.put(x, 0x3FFF, 6);
        banks("ONE at 0x3FFF", x, 6, 0, 0);
        Check.put(x, 0x1FFF, 0x0A);
        banks("ONE, ON", x, 6, 0, 1);
        Check.put(x, 0x0000, 0x0B);
        banks("ONE, not ON", x, 6, 0, 0);
        Check.put(x, 0x0000, 0xFA);
        banks("ONE, ON with 0xFA", x, 6, 0, 1);
        Check.put(x, 0x4000, 0xFE);
        banks("ONE, B without MODE", x, 6, 0, 1);
        Check.put(x, 0xA010, 10);
        Check.put(x, 0x7FFF, 0xFF);
        banks("ONE, MODE 1", x, 6, 2, 1);
        Check.equal("ONE: another RAM BANK", 0, x.read(0xA010));
        Check.put(x, 0xA010, 12);
        Check.put(x, 0x5FFF, 3);
        banks("ONE, B 3", x, 6, 3, 1);
        Check.put(x, 0x6000, 0xFE);
        banks("ONE, MODE 0", x, 6, 0, 1);
        Check.equal("ONE: RAM BANK 0 again", 10, x.read(0xA010));
        Check.put(x, 0x6000, 1);
        Check.put(x, 0x4000, 2);
        Check.equal("ONE: RAM BANK 2 again", 12, x.read(0xA010));
        Check.put(x, 0x0000, 0);
        Check.put(x, 0xA010, 13);
        Check.equal("ONE: not ON reads 0xFF", 255, x.read(0xA010));
        Check.put(x, 0x0000, 10);
        Check.equal("ONE: a write was lost", 12, x.read(0xA010));
        x.insert(1);
        banks("ONE, RESET", x, 1, 0, 0);
        Check.put(x, 0x4000, 3);
        banks("ONE, RESET: MODE is 0", x, 1, 0, 0);
    }

    private static void two() {
        TileConsole x = numbered(2);
        banks("TWO at first", x, 1, 0, 0);
        int[][] asked = {{0, 1}, {2, 2}, {7, 7}, {8, 0}, {9, 1}, {15, 7}, {16, 1}, {0xF3, 3}};
        for (int[] a : asked) {
            Check.put(x, 0x0100, a[0]);
            banks("TWO, " + a[0], x, a[1], 0, 0);
        }
        Check.put(x, 0x3FFF, 5);
        banks("TWO at 0x3FFF", x, 5, 0, 0);
        Check.put(x, 0x3EFF, 0x1A);
        banks("TWO, ON at 0x3EFF", x, 5, 0, 1);
        Check.put(x, 0x00FF, 0xA0);
        banks("TWO, not ON", x, 5, 0, 0);
        Check.put(x, 0x2000, 0x0A);
        banks("TWO, ON at 0x2000", x, 5, 0, 1);
        Check.put(x, 0x4000, 3);
        Check.put(x, 0x4100, 3);
        Check.put(x, 0x6000, 1);
        Check.put(x, 0x7FFF, 1);
        banks("TWO, others nothing", x, 5, 0, 1);
    }

    private static void three() {
        TileConsole x = numbered(3);
        banks("THREE at first", x, 1, 0, 0);
        int[][] asked = {{0, 0}, {1, 1}, {7, 7}, {8, 0}, {0xFF, 7}, {0xFA, 2}};
        for (int[] a : asked) {
            Check.put(x, 0x2FFF, a[0]);
            banks("THREE, " + a[0], x, a[1], 0, 0);
        }
        Check.put(x, 0x3000, 0xFF);
        banks("THREE, bit 8", x, 2, 0, 0);
        Check.put(x, 0x2000, 4);
        banks("THREE at 0x2000", x, 4, 0, 0);
        Check.put(x, 0x3FFF, 0);
        banks("THREE, bit 8 away", x, 4, 0, 0);
        Check.put(x, 0x1FFF, 0x2A);
        banks("THREE, ON", x, 4, 0, 1);
        Check.put(x, 0x4000, 0xFF);
        banks("THREE, RAM BANK", x, 4, 3, 1);
        Check.put(x, 0xA000, 33);
        Check.put(x, 0x5FFF, 1);
        banks("THREE, RAM BANK 1", x, 4, 1, 1);
        Check.equal("THREE: RAM BANK 1", 0, x.read(0xA000));
        Check.put(x, 0x6000, 2);
        Check.put(x, 0x7FFF, 0);
        banks("THREE, else nothing", x, 4, 1, 1);
        Check.put(x, 0x5000, 3);
        Check.equal("THREE: RAM BANK 3", 33, x.read(0xA000));
        Check.put(x, 0x0000, 0);
        banks("THREE, not ON", x, 4, 3, 0);
    }

    private static void ramOfTwo() {
        TileConsole x = Check.console(1);
        Check.put(x, 0, 10);
        Check.put(x, 0xA001, 0x5C);
        Check.put(x, 0xA002, 0x5C);
        x.insert(2);
        Check.equal("not ON", 0xFF, x.read(0xA001));
        Check.put(x, 0, 10);
        Check.equal("TWO reads the upper bits as 1", 0xFC, x.read(0xA001));
        Check.put(x, 0xA002, 0x93);
        Check.equal("TWO keeps the lower bits", 0xF3, x.read(0xA002));
        x.insert(0);
        Check.equal("RAM stays through TWO", 0x5C, x.read(0xA001));
        Check.equal("only the lower bits were kept", 0x03, x.read(0xA002));
    }
}
