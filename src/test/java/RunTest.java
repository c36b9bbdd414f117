/** Promises 4 and 12 (run, count): how far it runs, HALT, LOCK, EI and DI, interrupts. */
public final class RunTest {
    private static final int IF = 0xFF0F;
    private static final int IE = 0xFFFF;

    public static void main(String[] args) {
        wrongInputs();
        runsUpToN();
        counts();
        locks();
        halts();
        haltEnds();
        enables();
        enablesTwice();
        disables();
        interrupts();
        interruptOrder();
        interruptOnlyWhenAllowed();
        interruptFromHalt();
        interruptPush();
        timerInterrupt();
        keysInterrupt();
        Check.finish("RunTest");
    }

    private static void wrongInputs() {
        TileConsole x = new TileConsole();
        Class<IllegalArgumentException> illegal = IllegalArgumentException.class;
        int[] ns = {0, -1, 101, Integer.MAX_VALUE, Integer.MIN_VALUE};
        for (int n : ns) {
            Check.refuses("run(" + n + "), nothing IN", illegal, () -> x.run(n));
        }
        Check.refuses("nothing is IN", IllegalStateException.class, () -> x.run(100));
        TileConsole y = Check.program(0xDD);
        for (int n : ns) {
            Check.refuses("run(" + n + ")", illegal, () -> y.run(n));
        }
        Check.refuses("locks", UnsupportedOperationException.class, () -> y.run(1));
        Check.refuses("n before LOCKED", illegal, () -> y.run(0));
        int[] whats = {-1, 9, Integer.MAX_VALUE, Integer.MIN_VALUE};
        for (int what : whats) {
            Check.refuses("count(" + what + ")", illegal, () -> y.count(what));
            Check.refuses("count(" + what + "), nothing IN", illegal, () -> x.count(what));
        }
    }

    private static void runsUpToN() {
        TileConsole x = Check.program(0x3C, 0xC3, 0x00, 0xC0);
        x.set(Check.A, 0);
        Check.equal("run(1)", 1, x.run(1));
        Check.equal("A", 1, x.register(Check.A));
        Check.equal("run(1), the jump", 4, x.run(1));
        Check.equal("PC", 0xC000, x.register(Check.PC));
        Check.equal("run(100)", 250, x.run(100));
        Check.equal("A behind 50 rounds", 51, x.register(Check.A));
        Check.equal("run(3)", 6, x.run(3));
        Check.equal("A then", 53, x.register(Check.A));
    }

    private static void counts() {
        TileConsole x = Check.program(0x3C, 0xC3, 0x00, 0xC0);
        x.run(7);
        x.run(2);
        Check.equal("CYCLES since RESET", 21, x.count(Check.CYCLES));
        Check.equal("INSTRUCTIONS since RESET", 9, x.count(Check.DONE));
        Check.equal("IME", 0, x.count(Check.IME));
        Check.equal("HALTS", 0, x.count(Check.HALTS));
        Check.equal("LOCKED", 0, x.count(Check.LOCKED));
        Check.equal("interrupts", 0, x.count(Check.TAKEN));
        x.insert(0);
        Check.equal("CYCLES after RESET", 0, x.count(Check.CYCLES));
        Check.equal("INSTRUCTIONS after RESET", 0, x.count(Check.DONE));
    }

    private static void locks() {
        TileConsole x = Check.program(0x3C, 0x3C, 0xE3, 0x3C);
        x.set(Check.A, 0);
        Check.refuses("it LOCKS in the run", UnsupportedOperationException.class, () -> x.run(10));
        Check.equal("what came before is done", 2, x.register(Check.A));
        Check.equal("CYCLES of what came before", 2, x.count(Check.CYCLES));
        Check.equal("INSTRUCTIONS that were done", 2, x.count(Check.DONE));
        Check.equal("PC is behind it", 0xC003, x.register(Check.PC));
        Check.equal("LOCKED", 1, x.count(Check.LOCKED));
        Check.refuses("it is LOCKED", UnsupportedOperationException.class, () -> x.run(1));
        Check.equal("PC stays", 0xC003, x.register(Check.PC));
        Check.equal("CYCLES stay", 2, x.count(Check.CYCLES));
        x.set(Check.PC, 0xC000);
        Check.put(x, IE, 1);
        Check.put(x, IF, 1);
        Check.refuses("still LOCKED", UnsupportedOperationException.class, () -> x.run(1));
        Check.equal("no INSTRUCTION was done", 2, x.register(Check.A));
        Check.equal("no interrupt when LOCKED", 0, x.count(Check.TAKEN));
        x.insert(0);
        Check.equal("not LOCKED after RESET", 0, x.count(Check.LOCKED));
    }

    private static void halts() {
        TileConsole x = Check.program(0x76, 0x3C);
        x.set(Check.A, 0);
        Check.equal("HALT", 1, x.run(1));
        Check.equal("it HALTS", 1, x.count(Check.HALTS));
        Check.equal("PC is behind", 0xC001, x.register(Check.PC));
        Check.equal("1 for each that is not done", 50, x.run(50));
        Check.equal("PC stays", 0xC001, x.register(Check.PC));
        Check.equal("CYCLES", 51, x.count(Check.CYCLES));
        Check.equal("only HALT was done", 1, x.count(Check.DONE));
        Check.equal("S goes on", 0, x.read(0xFF04));
        x.run(13);
        Check.equal("S is 64", 1, x.read(0xFF04));
        x.set(Check.PC, 0xC001);
        Check.put(x, IE, 0xE0);
        x.run(1);
        Check.equal("upper bits of IE wake nothing", 1, x.count(Check.HALTS));
    }

    private static void haltEnds() {
        for (int bit = 0; bit < 5; bit++) {
            TileConsole x = Check.program(0x76, 0x3C);
            x.set(Check.A, 0);
            x.run(2);
            Check.put(x, IF, 1 << bit);
            x.run(1);
            Check.equal("IE has not the bit", 1, x.count(Check.HALTS));
            Check.put(x, IE, 1 << bit);
            Check.equal("it HALTS until an INSTRUCTION", 1, x.count(Check.HALTS));
            Check.equal("the INSTRUCTION behind", 1, x.run(1));
            Check.equal("it HALTS no more", 0, x.count(Check.HALTS));
            Check.equal("A + 1", 1, x.register(Check.A));
            Check.equal("without IME no interrupt", 0, x.count(Check.TAKEN));
            Check.equal("IF stays", 0xE0 | 1 << bit, x.read(IF));
        }
        TileConsole x = Check.program(0x76, 0x3C);
        Check.put(x, IF, 1);
        Check.put(x, IE, 1);
        x.set(Check.A, 0);
        x.run(2);
        Check.equal("HALT with a bit that waits already", 1, x.register(Check.A));
    }

    private static void enables() {
        TileConsole x = Check.program(0xFB, 0x00, 0x00);
        x.run(1);
        Check.equal("behind EI", 0, x.count(Check.IME));
        x.run(1);
        Check.equal("behind the INSTRUCTION that follows", 1, x.count(Check.IME));
        TileConsole y = Check.program(0xFB, 0xF3, 0x00);
        y.run(2);
        Check.equal("EI, DI", 0, y.count(Check.IME));
        y.run(1);
        Check.equal("EI, DI, nothing", 0, y.count(Check.IME));
        TileConsole z = Check.program(0xFB, 0x76);
        z.run(2);
        Check.equal("EI, HALT: IME", 1, z.count(Check.IME));
        Check.equal("EI, HALT: HALTS", 1, z.count(Check.HALTS));
    }

    private static void enablesTwice() {
        TileConsole x = Check.program(0xFB, 0xFB, 0x00);
        x.run(2);
        Check.equal("EI, EI", 1, x.count(Check.IME));
        x.run(1);
        Check.equal("EI, EI, nothing", 1, x.count(Check.IME));
        TileConsole y = Check.program(0xFB, 0xFB, 0xF3, 0x00);
        y.run(3);
        Check.equal("EI, EI, DI", 0, y.count(Check.IME));
        y.run(1);
        Check.equal("EI, EI, DI, nothing", 0, y.count(Check.IME));
        TileConsole z = Check.program(0xFB, 0xFB);
        z.set(Check.SP, 0xC300);
        Check.put(z, IF, 1);
        Check.put(z, IE, 1);
        z.run(3);
        Check.equal("EI, EI, interrupt", 1, z.count(Check.TAKEN));
        Check.equal("EI, EI, interrupt: IME", 0, z.count(Check.IME));
        z.run(1);
        Check.equal("EI, EI, interrupt, nothing: IME", 0, z.count(Check.IME));
        TileConsole u = Check.program(0xFB, 0x00, 0xFB, 0xF3, 0x00);
        u.run(5);
        Check.equal("EI with IME 1, then DI", 0, u.count(Check.IME));
    }

    private static void disables() {
        TileConsole x = Check.program(0xFB, 0x00, 0xF3, 0x00);
        x.run(3);
        Check.equal("DI at once", 0, x.count(Check.IME));
        x.run(1);
        Check.equal("DI stays", 0, x.count(Check.IME));
    }

    /** IME is 1, SP 0xC300, PC 0xC002 before instructions of A + 1. */
    private static TileConsole ready() {
        TileConsole x = Check.program(0xFB, 0x00, 0x3C, 0x3C, 0x3C);
        x.set(Check.SP, 0xC300);
        x.set(Check.A, 0);
        x.run(2);
        return x;
    }

    private static void interrupts() {
        for (int bit = 0; bit < 5; bit++) {
            TileConsole x = ready();
            Check.put(x, IE, 1 << bit);
            Check.put(x, IF, 1 << bit | (bit == 0 ? 2 : 1));
            Check.equal("interrupt " + bit, 5, x.run(1));
            Check.equal("PC", 0x40 + 8 * bit, x.register(Check.PC));
            Check.equal("SP", 0xC2FE, x.register(Check.SP));
            Check.equal("PC is pushed", 0xC002, Check.word(x, 0xC2FE));
            Check.equal("IF", 0xE0 | (bit == 0 ? 2 : 1), x.read(IF));
            Check.equal("IE stays", 1 << bit, x.read(IE));
            Check.equal("IME", 0, x.count(Check.IME));
            Check.equal("taken", 1, x.count(Check.TAKEN));
            Check.equal("that is the INSTRUCTION", 3, x.count(Check.DONE));
            Check.equal("CYCLES", 7, x.count(Check.CYCLES));
            Check.equal("nothing else was done", 0, x.register(Check.A));
        }
    }

    private static void interruptOrder() {
        TileConsole x = ready();
        Check.put(x, IE, 0xFF);
        Check.put(x, IF, 0x16);
        x.run(1);
        Check.equal("the lowest first", 0x48, x.register(Check.PC));
        Check.equal("the others wait", 0xF4, x.read(IF));
        x.rom(0, 0x48, 1, 0xD9);
        x.run(1);
        Check.equal("RETI", 0xC002, x.register(Check.PC));
        x.run(1);
        Check.equal("the next", 0x50, x.register(Check.PC));
        Check.equal("one waits", 0xF0, x.read(IF));
        Check.equal("two were taken", 2, x.count(Check.TAKEN));
        x.run(1);
        Check.equal("IME is 0: no third", 0x51, x.register(Check.PC));
    }

    private static void interruptOnlyWhenAllowed() {
        TileConsole x = ready();
        Check.put(x, IE, 0x0F);
        Check.put(x, IF, 0x10);
        Check.equal("IE has not the bit", 1, x.run(1));
        Check.put(x, IE, 0xE0);
        Check.put(x, IF, 0xFF);
        Check.equal("the upper bits of IE", 1, x.run(1));
        Check.equal("none was taken", 0, x.count(Check.TAKEN));
        TileConsole y = Check.program(0x00, 0xFB, 0x3C, 0x3C);
        y.set(Check.SP, 0xC300);
        y.set(Check.A, 0);
        Check.put(y, IE, 4);
        Check.put(y, IF, 4);
        y.run(3);
        Check.equal("the INSTRUCTION behind EI is done", 1, y.register(Check.A));
        Check.equal("not yet", 0, y.count(Check.TAKEN));
        y.run(1);
        Check.equal("behind it", 0x50, y.register(Check.PC));
        Check.equal("what is pushed", 0xC003, Check.word(y, 0xC2FE));
    }

    private static void interruptFromHalt() {
        TileConsole x = Check.program(0xFB, 0x76, 0x3C);
        x.set(Check.SP, 0xC300);
        x.run(5);
        Check.equal("it HALTS", 1, x.count(Check.HALTS));
        Check.put(x, IE, 16);
        Check.put(x, IF, 16);
        Check.equal("five CYCLES", 5, x.run(1));
        Check.equal("it HALTS no more", 0, x.count(Check.HALTS));
        Check.equal("PC", 0x60, x.register(Check.PC));
        Check.equal("pushed is what stands behind HALT", 0xC002, Check.word(x, 0xC2FE));
        Check.equal("EI, HALT and the interrupt are done", 3, x.count(Check.DONE));
    }

    private static void interruptPush() {
        TileConsole x = ready();
        x.set(Check.SP, 0);
        Check.put(x, IE, 1);
        Check.put(x, IF, 1);
        x.run(1);
        Check.equal("PC's upper octet is pushed to IE", 0xC0, x.read(IE));
        Check.equal("and the lower to HIGH", 0x02, x.read(0xFFFE));
        Check.equal("PC", 0x40, x.register(Check.PC));
        TileConsole y = ready();
        y.set(Check.SP, 0xFF11);
        Check.put(y, IE, 1);
        Check.put(y, IF, 1);
        y.run(1);
        Check.equal("the push comes behind IF", 0xE2, y.read(IF));
    }

    private static void timerInterrupt() {
        TileConsole x = ready();
        Check.put(x, 0xC002, 0x18);
        Check.put(x, 0xC003, 0xFE);
        Check.put(x, 0xFF04, 0);
        Check.put(x, 0xFF05, 0xFF);
        Check.put(x, 0xFF07, 5);
        Check.put(x, IE, 4);
        Check.equal("two jumps", 6, x.run(2));
        Check.equal("TIMER in the second", 0xE4, x.read(IF));
        Check.equal("then the interrupt", 5, x.run(1));
        Check.equal("PC", 0x50, x.register(Check.PC));
        Check.equal("its CYCLES pass, too", 0x01, x.read(0xFF05));
    }

    private static void keysInterrupt() {
        TileConsole x = ready();
        Check.put(x, IE, 16);
        x.run(1);
        x.keys(64);
        x.run(1);
        Check.equal("KEYS", 0x60, x.register(Check.PC));
        Check.equal("IF", 0xE0, x.read(IF));
    }
}
