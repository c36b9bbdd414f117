/** The processor's terms at their edges, a method for each sentence, whose words stand above it. */
public final class ProcessorEdgeTest {
    private static final int Z = 128;
    private static final int N = 64;
    private static final int H = 32;
    private static final int C = 16;
    private static final int IF = 0xFF0F;
    private static final int IE = 0xFFFF;
    private static final int HL = 0xC220;
    private static final int[] PLACES = {Check.B, Check.C, Check.D, Check.E, Check.H, Check.L, -1, Check.A};

    public static void main(String[] args) {
        octetsComeRound();
        wordsComeRound();
        lowerOctetFirst();
        signedOctets();
        flagsOthersAreZero();
        fetchesComeRound();
        jumpsComeRound();
        stackComesRound();
        stackPointerToTheLastPlace();
        addressesComeRound();
        upperPageEnds();
        wordSums();
        stackPointerSums();
        sums();
        differences();
        logic();
        decimalSum();
        decimalDifference();
        flagInstructions();
        restarts();
        accumulatorShiftsHaveNoZero();
        shifts();
        bits();
        conditions();
        stops();
        locks();
        enable();
        enableWhenItIs();
        enableTwice();
        enableThenDisable();
        enableThenLock();
        returnEnables();
        timeOfWords();
        timeWhenTheyGo();
        haltTime();
        haltEnds();
        interruptBits();
        interruptLowest();
        interruptNeedsAll();
        interruptPushesBehindIf();
        Check.finish("ProcessorEdgeTest");
    }

    private static void flags(String what, int due, TileConsole x) {
        Check.equal(what + ": F", due, x.register(Check.F));
    }

    // "OCTETS are 0 to 255"; "r y + 1, - 1 (Z, N, H)"
    private static void octetsComeRound() {
        for (int r = 0; r < 8; r++) {
            if (r == 6) {
                continue;
            }
            TileConsole x = Check.program(0x04 + 8 * r, 0x05 + 8 * r, 0x05 + 8 * r, 0x04 + 8 * r);
            x.set(PLACES[r], 255);
            x.set(Check.F, C);
            x.run(1);
            Check.equal("255 + 1, r " + r, 0, x.register(PLACES[r]));
            flags("255 + 1, r " + r, Z | H | C, x);
            x.run(1);
            Check.equal("0 - 1, r " + r, 255, x.register(PLACES[r]));
            flags("0 - 1, r " + r, N | H | C, x);
            x.set(PLACES[r], 16);
            x.run(1);
            flags("16 - 1, r " + r, N | H | C, x);
            x.set(Check.F, 0);
            x.run(1);
            flags("15 + 1, r " + r, H, x);
            Check.load(x, 0x04 + 8 * r, 0x05 + 8 * r, 0x05 + 8 * r);
            x.set(PLACES[r], 16);
            x.run(1);
            flags("16 + 1, r " + r, 0, x);
            x.run(1);
            flags("17 - 1, r " + r, N, x);
            x.set(PLACES[r], 1);
            x.run(1);
            flags("1 - 1, r " + r, Z | N, x);
        }
        TileConsole x = Check.program(0x34, 0x35);
        Check.setPair(x, Check.H, HL);
        Check.put(x, HL, 255);
        x.run(1);
        Check.equal("255 + 1 at HL", 0, x.read(HL));
        flags("255 + 1 at HL", Z | H | C, x);
        x.run(1);
        Check.equal("0 - 1 at HL", 255, x.read(HL));
        flags("0 - 1 at HL", N | H | C, x);
    }

    // "WORDS 0 to 0xFFFF"; "w p + 1, q 1: - 1"
    private static void wordsComeRound() {
        for (int w = 0; w < 4; w++) {
            TileConsole x = Check.program(0x03 + 16 * w, 0x0B + 16 * w, 0x0B + 16 * w, 0x03 + 16 * w);
            setWord(x, w, 0xFFFF);
            x.set(Check.F, 0x50);
            x.run(1);
            Check.equal("0xFFFF + 1, w " + w, 0, word(x, w));
            x.run(1);
            Check.equal("0 - 1, w " + w, 0xFFFF, word(x, w));
            setWord(x, w, 0x0100);
            x.run(1);
            Check.equal("0x100 - 1, w " + w, 0x00FF, word(x, w));
            x.run(1);
            Check.equal("0xFF + 1, w " + w, 0x0100, word(x, w));
            flags("words have no flags, w " + w, 0x50, x);
        }
    }

    private static void setWord(TileConsole x, int w, int v) {
        if (w == 3) {
            x.set(Check.SP, v);
        } else {
            Check.setPair(x, Check.B + 2 * w, v);
        }
    }

    private static int word(TileConsole x, int w) {
        return w == 3 ? x.register(Check.SP) : Check.pair(x, Check.B + 2 * w);
    }

    // "(the lower octet first in memory)"
    private static void lowerOctetFirst() {
        TileConsole x = Check.program(0x01, 0x34, 0x12, 0x08, 0x80, 0xC1, 0xC5, 0xD1, 0xC3, 0x78, 0x56);
        x.set(Check.SP, 0xC300);
        x.run(1);
        Check.equal("nn: B", 0x12, x.register(Check.B));
        Check.equal("nn: C", 0x34, x.register(Check.C));
        x.run(1);
        Check.equal("SP to nn: lower", 0x00, x.read(0xC180));
        Check.equal("SP to nn: upper", 0xC3, x.read(0xC181));
        x.run(1);
        Check.equal("PUSH: lower", 0x34, x.read(0xC2FE));
        Check.equal("PUSH: upper", 0x12, x.read(0xC2FF));
        x.run(1);
        Check.equal("POP", 0x1234, Check.pair(x, Check.D));
        x.run(1);
        Check.equal("JP", 0x5678, x.register(Check.PC));
    }

    // "as a signed octet: 0x80 and more are below 0"
    private static void signedOctets() {
        int[][] asked = {{0x00, 0}, {0x01, 1}, {0x7F, 127}, {0x80, -128}, {0x81, -127}, {0xFF, -1}};
        for (int[] a : asked) {
            TileConsole x = Check.program(0);
            Check.putAll(x, 0xC180, 0x18, a[0]);
            x.set(Check.PC, 0xC180);
            x.run(1);
            Check.equal("JR " + a[0], 0xC182 + a[1], x.register(Check.PC));
            TileConsole y = Check.program(0xE8, a[0], 0xF8, a[0]);
            y.set(Check.SP, 0x5000);
            y.run(1);
            Check.equal("SP + " + a[0], 0x5000 + a[1], y.register(Check.SP));
            y.run(1);
            Check.equal("HL is SP + " + a[0], 0x5000 + 2 * a[1], Check.pair(y, Check.H));
        }
    }

    // "F: Z 128, N 64, H 32, C 16 (others are 0 always)"
    private static void flagsOthersAreZero() {
        TileConsole x = Check.program(0xF1, 0xF5, 0xF1);
        x.set(Check.SP, 0xC300);
        Check.putAll(x, 0xC300, 0xFF, 0xEE, 0x0F, 0x01);
        x.run(1);
        Check.equal("POP AF: A", 0xEE, x.register(Check.A));
        flags("POP AF of 0xFF", 0xF0, x);
        x.run(1);
        Check.equal("PUSH AF", 0xEEF0, Check.word(x, 0xC300));
        x.set(Check.SP, 0xC302);
        x.run(1);
        flags("POP AF of 0x0F", 0, x);
        x.set(Check.F, 0x1F);
        flags("set of 0x1F", C, x);
    }

    // PC is a WORD: "n the OCTET behind, nn the WORD behind" comes from 0 on behind 0xFFFF.
    private static void fetchesComeRound() {
        TileConsole x = Check.program(0);
        x.rom(0, 0, 2, 0xC1AA);
        Check.put(x, IE, 0x00);
        x.set(Check.PC, 0xFFFF);
        x.run(1);
        Check.equal("nothing at 0xFFFF", 0, x.register(Check.PC));
        Check.put(x, IE, 0xC3);
        x.set(Check.PC, 0xFFFF);
        x.run(1);
        Check.equal("JP with nn at 0", 0xC1AA, x.register(Check.PC));
        Check.putAll(x, 0xFFFE, 0x01, 0x55);
        x.set(Check.PC, 0xFFFE);
        x.run(1);
        Check.equal("nn half at 0xFFFF, half at 0", 0xAA55, Check.pair(x, Check.B));
        Check.equal("PC", 1, x.register(Check.PC));
        Check.put(x, IE, 0xCB);
        x.rom(0, 0, 1, 0x37);
        x.set(Check.A, 0x12);
        x.set(Check.PC, 0xFFFF);
        x.run(1);
        Check.equal("CB at 0xFFFF", 0x21, x.register(Check.A));
    }

    // PC is a WORD: JR over both ends.
    private static void jumpsComeRound() {
        TileConsole x = Check.program(0);
        x.rom(0, 0, 2, 0xFD18);
        x.set(Check.PC, 0);
        x.run(1);
        Check.equal("JR below 0", 0xFFFF, x.register(Check.PC));
        Check.putAll(x, 0xFFF0, 0x18, 0x0E);
        x.set(Check.PC, 0xFFF0);
        x.run(1);
        Check.equal("JR to 0", 0, x.register(Check.PC));
        Check.putAll(x, 0xFFF0, 0x18, 0x0D);
        x.set(Check.PC, 0xFFF0);
        x.run(1);
        Check.equal("JR to 0xFFFF", 0xFFFF, x.register(Check.PC));
    }

    // SP is a WORD: PUSH, POP, CALL, RET, RST and interrupts over both ends.
    private static void stackComesRound() {
        TileConsole x = Check.program(0xC5, 0xCD, 0x00, 0xC1);
        Check.setPair(x, Check.B, 0x1234);
        x.set(Check.SP, 0);
        x.run(1);
        Check.equal("PUSH at 0: upper", 0x12, x.read(0xFFFF));
        Check.equal("PUSH at 0: lower", 0x34, x.read(0xFFFE));
        Check.equal("PUSH at 0: SP", 0xFFFE, x.register(Check.SP));
        Check.put(x, IE, 0);
        x.set(Check.SP, 1);
        x.run(1);
        Check.equal("CALL at 1: lower", 0x04, x.read(0xFFFF));
        Check.equal("CALL at 1: SP", 0xFFFF, x.register(Check.SP));
        Check.put(x, 0xC100, 0xC9);
        x.rom(0, 0, 1, 0xC3);
        x.run(1);
        Check.equal("RET at 0xFFFF", 0xC304, x.register(Check.PC));
        Check.equal("RET at 0xFFFF: SP", 1, x.register(Check.SP));
        Check.load(x, 0xFF);
        x.set(Check.SP, 0);
        x.run(1);
        Check.equal("RST at 0: SP", 0xFFFE, x.register(Check.SP));
        Check.equal("RST at 0: upper", 0xC0, x.read(0xFFFF));
        Check.load(x, 0xF1);
        x.set(Check.SP, 0xFFFE);
        x.run(1);
        Check.equal("POP up to the end", 0xC0, x.register(Check.A));
        Check.equal("POP up to the end: SP", 0, x.register(Check.SP));
    }

    // "SP to nn": behind 0xFFFF comes 0, where the controller is.
    private static void stackPointerToTheLastPlace() {
        TileConsole x = Check.console(1);
        Check.put(x, IF, 0);
        Check.load(x, 0x08, 0xFF, 0xFF);
        x.set(Check.SP, 0x0AE0);
        x.run(1);
        Check.equal("lower to IE", 0xE0, x.read(IE));
        Check.equal("upper to the controller", 1, x.count(Check.RAM_ON));
    }

    // "HL (then HL + 1), HL (then HL - 1)" at the ends of the WORDS
    private static void addressesComeRound() {
        TileConsole x = Check.program(0x22, 0x32, 0x2A, 0x3A);
        x.rom(0, 0, 1, 0x77);
        x.set(Check.A, 0x60);
        Check.setPair(x, Check.H, 0xFFFF);
        x.run(1);
        Check.equal("A to 0xFFFF", 0x60, x.read(IE));
        Check.equal("HL + 1", 0, Check.pair(x, Check.H));
        x.run(1);
        Check.equal("HL - 1", 0xFFFF, Check.pair(x, Check.H));
        x.set(Check.A, 0);
        x.run(1);
        Check.equal("A from 0xFFFF", 0x60, x.register(Check.A));
        Check.equal("HL + 1 once more", 0, Check.pair(x, Check.H));
        x.run(1);
        Check.equal("A from 0", 0x77, x.register(Check.A));
        Check.equal("HL - 1 once more", 0xFFFF, Check.pair(x, Check.H));
    }

    // "A to 0xFF00 + n", "A to 0xFF00 + C": the first and the last place of the page
    private static void upperPageEnds() {
        TileConsole x = Check.program(0xE0, 0x00, 0xF0, 0x00, 0xE0, 0xFF, 0xF0, 0xFF, 0xE2, 0xF2, 0xE2, 0xF2);
        x.set(Check.A, 0x20);
        x.run(2);
        Check.equal("0xFF00 + 0", 0xEF, x.register(Check.A));
        x.set(Check.A, 0x60);
        x.run(1);
        Check.equal("to 0xFF00 + 0xFF", 0x60, x.read(IE));
        x.set(Check.A, 0);
        x.run(1);
        Check.equal("from 0xFF00 + 0xFF", 0x60, x.register(Check.A));
        x.set(Check.C, 0xFF);
        x.set(Check.A, 0x80);
        x.run(1);
        Check.equal("to 0xFF00 + C, C 0xFF", 0x80, x.read(IE));
        x.run(1);
        Check.equal("from 0xFF00 + C, C 0xFF", 0x80, x.register(Check.A));
        x.set(Check.C, 0);
        x.set(Check.A, 0x10);
        x.run(2);
        Check.equal("0xFF00 + C, C 0", 0xDF, x.register(Check.A));
    }

    // "HL is HL + w p (N 0, H, C of the WORDS, from bits 11, 15)"
    private static void wordSums() {
        int[][] asked = {
            {0x0FFF, 0x0000, 0}, {0x0FFF, 0x0001, H}, {0x0800, 0x0800, H}, {0x07FF, 0x0800, 0}, {0xF000, 0x0FFF, 0},
            {0xF000, 0x1000, C}, {0xFFFF, 0x0001, H | C}, {0x8000, 0x8000, C}, {0x7FFF, 0x8000, 0}, {0xFFFF, 0xFFFF, H | C},
        };
        for (int[] a : asked) {
            for (int z = 0; z <= Z; z += Z) {
                TileConsole x = Check.program(0x09);
                Check.setPair(x, Check.H, a[0]);
                Check.setPair(x, Check.B, a[1]);
                x.set(Check.F, z | N | (a[2] ^ (H | C)));
                x.run(1);
                Check.equal(a[0] + " + " + a[1], (a[0] + a[1]) % 0x10000, Check.pair(x, Check.H));
                flags(a[0] + " + " + a[1], z | a[2], x);
            }
        }
    }

    // "(5, 7: Z, N 0, H, C of the low octets and n without signs)"
    private static void stackPointerSums() {
        int[][] asked = {
            {0x000F, 0x00, 0, 0x000F}, {0x000F, 0x01, H, 0x0010}, {0x00F0, 0x0F, 0, 0x00FF}, {0x00FF, 0x01, H | C, 0x0100},
            {0x0000, 0xFF, 0, 0xFFFF}, {0x0001, 0xFF, H | C, 0x0000}, {0xFFFF, 0x01, H | C, 0x0000}, {0xFFF0, 0x10, C, 0x0000},
            {0x0010, 0xF0, C, 0x0000}, {0x0000, 0x00, 0, 0x0000}, {0x0080, 0x80, C, 0x0000}, {0x0000, 0x80, 0, 0xFF80},
        };
        for (int[] a : asked) {
            TileConsole x = Check.program(0xF8, a[1], 0xE8, a[1]);
            x.set(Check.SP, a[0]);
            x.set(Check.F, 0xF0);
            x.run(1);
            Check.equal("HL is " + a[0] + " + " + a[1], a[3], Check.pair(x, Check.H));
            flags("HL is " + a[0] + " + " + a[1], a[2], x);
            x.set(Check.F, 0xF0);
            x.run(1);
            Check.equal("SP is " + a[0] + " + " + a[1], a[3], x.register(Check.SP));
            flags("SP is " + a[0] + " + " + a[1], a[2], x);
        }
    }

    private static void combine(String what, int i, int a, int v, int f, int dueA, int dueF) {
        TileConsole x = Check.program(i, v);
        x.set(Check.A, a);
        x.set(Check.F, f);
        x.run(1);
        Check.equal(what + ": A", dueA, x.register(Check.A));
        flags(what, dueF, x);
    }

    // "0 ADD, 1 ADC ... (Z N H C as usual; H of four bits"
    private static void sums() {
        combine("ADD 15 + 0", 0xC6, 0x0F, 0, 0xF0, 0x0F, 0);
        combine("ADD 15 + 1", 0xC6, 0x0F, 1, 0xF0, 0x10, H);
        combine("ADD 255 + 0", 0xC6, 0xFF, 0, 0xF0, 0xFF, 0);
        combine("ADD 255 + 1", 0xC6, 0xFF, 1, 0, 0, Z | H | C);
        combine("ADD 0 + 0", 0xC6, 0, 0, C, 0, Z);
        combine("ADD 0xF0 + 0x10", 0xC6, 0xF0, 0x10, 0, 0, Z | C);
        combine("ADC 15 + 0 + 1", 0xCE, 0x0F, 0, C, 0x10, H);
        combine("ADC 0 + 15 + 1", 0xCE, 0, 0x0F, C, 0x10, H);
        combine("ADC 255 + 0 + 1", 0xCE, 0xFF, 0, C, 0, Z | H | C);
        combine("ADC 0 + 255 + 1", 0xCE, 0, 0xFF, C, 0, Z | H | C);
        combine("ADC 255 + 255 + 1", 0xCE, 0xFF, 0xFF, C, 0xFF, H | C);
        combine("ADC 255 + 0 + 0", 0xCE, 0xFF, 0, N, 0xFF, 0);
        combine("ADC 0 + 0 + 1", 0xCE, 0, 0, C, 1, 0);
    }

    // "2 SUB, 3 SBC ... 7 CP"
    private static void differences() {
        combine("SUB 0 - 0", 0xD6, 0, 0, C, 0, Z | N);
        combine("SUB 0 - 1", 0xD6, 0, 1, 0, 0xFF, N | H | C);
        combine("SUB 16 - 1", 0xD6, 0x10, 1, 0, 0x0F, N | H);
        combine("SUB 15 - 15", 0xD6, 0x0F, 0x0F, 0, 0, Z | N);
        combine("SUB 0x0F - 0x10", 0xD6, 0x0F, 0x10, 0, 0xFF, N | C);
        combine("SUB 255 - 255", 0xD6, 0xFF, 0xFF, 0, 0, Z | N);
        combine("SBC 0 - 0 - 1", 0xDE, 0, 0, C, 0xFF, N | H | C);
        combine("SBC 0 - 255 - 1", 0xDE, 0, 0xFF, C, 0, Z | N | H | C);
        combine("SBC 255 - 255 - 1", 0xDE, 0xFF, 0xFF, C, 0xFF, N | H | C);
        combine("SBC 1 - 0 - 1", 0xDE, 1, 0, C, 0, Z | N);
        combine("SBC 16 - 15 - 1", 0xDE, 0x10, 0x0F, C, 0, Z | N | H);
        combine("SBC 0 - 0 - 0", 0xDE, 0, 0, 0, 0, Z | N);
        combine("CP 5, 5", 0xFE, 5, 5, C, 5, Z | N);
        combine("CP 5, 6", 0xFE, 5, 6, C, 5, N | H | C);
        combine("CP 0, 255", 0xFE, 0, 255, C, 0, N | H | C);
    }

    // "4 AND (H 1), 5 XOR, 6 OR ... AND, XOR, OR: C 0"
    private static void logic() {
        combine("AND to 0", 0xE6, 0xF0, 0x0F, 0xF0, 0, Z | H);
        combine("AND of 255", 0xE6, 0xFF, 0xFF, 0xF0, 0xFF, H);
        combine("XOR to 0", 0xEE, 0xFF, 0xFF, 0xF0, 0, Z);
        combine("XOR to 255", 0xEE, 0xF0, 0x0F, 0xF0, 0xFF, 0);
        combine("OR of 0", 0xF6, 0, 0, 0xF0, 0, Z);
        combine("OR to 255", 0xF6, 0xF0, 0x0F, 0xF0, 0xFF, 0);
    }

    // "with N 0: if C or A above 0x99: 0x60 more, C 1; if H or the low four bits (before) above 9: 6 more"
    private static void decimalSum() {
        combine("DAA 0x00", 0x27, 0x00, 0, 0, 0x00, Z);
        combine("DAA 0x09", 0x27, 0x09, 0, 0, 0x09, 0);
        combine("DAA 0x0A", 0x27, 0x0A, 0, 0, 0x10, 0);
        combine("DAA 0x90", 0x27, 0x90, 0, 0, 0x90, 0);
        combine("DAA 0x99", 0x27, 0x99, 0, 0, 0x99, 0);
        combine("DAA 0x9A", 0x27, 0x9A, 0, 0, 0x00, Z | C);
        combine("DAA 0xA0", 0x27, 0xA0, 0, 0, 0x00, Z | C);
        combine("DAA 0xFF", 0x27, 0xFF, 0, 0, 0x65, C);
        combine("DAA 0x99, H", 0x27, 0x99, 0, H, 0x9F, 0);
        combine("DAA 0x03, H", 0x27, 0x03, 0, H, 0x09, 0);
        combine("DAA 0x00, C", 0x27, 0x00, 0, C, 0x60, C);
        combine("DAA 0x9A, H, C", 0x27, 0x9A, 0, Z | H | C, 0x00, Z | C);
    }

    // "with N 1: if C 0x60 less; if H 6 less; Z, H 0"
    private static void decimalDifference() {
        combine("DAA N, 0x00", 0x27, 0x00, 0, N, 0x00, Z | N);
        combine("DAA N, 0x9A", 0x27, 0x9A, 0, N | Z, 0x9A, N);
        combine("DAA N, 0x0F, H", 0x27, 0x0F, 0, N | H, 0x09, N);
        combine("DAA N, 0x06, H", 0x27, 0x06, 0, N | H, 0x00, Z | N);
        combine("DAA N, 0x05, H", 0x27, 0x05, 0, N | H, 0xFF, N);
        combine("DAA N, 0x60, C", 0x27, 0x60, 0, N | C, 0x00, Z | N | C);
        combine("DAA N, 0x5F, C", 0x27, 0x5F, 0, N | C, 0xFF, N | C);
        combine("DAA N, 0x66, H, C", 0x27, 0x66, 0, N | H | C, 0x00, Z | N | C);
        combine("DAA N, 0x65, H, C", 0x27, 0x65, 0, N | H | C, 0xFF, N | C);
    }

    // "5 CPL (N, H 1), 6 SCF (N, H 0, C 1), 7 CCF (N, H 0, C turned)"
    private static void flagInstructions() {
        combine("CPL of 0", 0x2F, 0, 0, 0, 255, N | H);
        combine("CPL of 255 to 0", 0x2F, 255, 0, Z | N | H | C, 0, Z | N | H | C);
        combine("CPL is nothing to Z", 0x2F, 255, 0, 0, 0, N | H);
        combine("SCF without flags", 0x37, 0, 0, 0, 0, C);
        combine("SCF with all flags", 0x37, 1, 0, 0xF0, 1, Z | C);
        combine("CCF without flags", 0x3F, 0, 0, 0, 0, C);
        combine("CCF with all flags", 0x3F, 1, 0, 0xF0, 1, Z);
    }

    // "RST: call of 8 y": the first and the last
    private static void restarts() {
        for (int y = 0; y < 8; y += 7) {
            TileConsole x = Check.program(0xC7 + 8 * y);
            x.set(Check.SP, 0xC300);
            Check.equal("RST " + y, 4, x.run(1));
            Check.equal("RST " + y + ": PC", 8 * y, x.register(Check.PC));
            Check.equal("RST " + y + ": pushed", 0xC001, Check.word(x, 0xC2FE));
        }
    }

    // "0 RLCA, 1 RRCA, 2 RLA, 3 RRA (as CB, Z 0)"
    private static void accumulatorShiftsHaveNoZero() {
        for (int y = 0; y < 4; y++) {
            combine("A's shift " + y + " of 0", 0x07 + 8 * y, 0, 0, Z | N | H, 0, 0);
        }
        combine("RLA of 0x80", 0x17, 0x80, 0, 0, 0, C);
        combine("RRA of 0x01", 0x1F, 0x01, 0, 0, 0, C);
        combine("RLCA of 0x80", 0x07, 0x80, 0, 0, 1, C);
        combine("RRCA of 0x01", 0x0F, 0x01, 0, 0, 0x80, C);
        combine("RLA of 0 with C", 0x17, 0, 0, C, 1, 0);
        combine("RRA of 0 with C", 0x1F, 0, 0, C, 0x80, 0);
    }

    private static void shift(String what, int y, int a, int f, int dueA, int dueF) {
        combine(what, 0xCB, a, 8 * y + 7, f, dueA, dueF);
    }

    // "0 RLC ... 6 SWAP (C 0), 7 SRL (Z; N, H 0; C the bit that goes out)"
    private static void shifts() {
        for (int y = 0; y < 8; y++) {
            shift("shift " + y + " of 0", y, 0, N | H, 0, Z);
        }
        shift("RLC of 0x80", 0, 0x80, 0, 1, C);
        shift("RRC of 1", 1, 1, 0, 0x80, C);
        shift("RL of 0x80", 2, 0x80, 0, 0, Z | C);
        shift("RL of 0, C", 2, 0, C, 1, 0);
        shift("RR of 1", 3, 1, 0, 0, Z | C);
        shift("RR of 0, C", 3, 0, C, 0x80, 0);
        shift("SLA of 0x80", 4, 0x80, C, 0, Z | C);
        shift("SLA of 0x7F", 4, 0x7F, C, 0xFE, 0);
        shift("SRA of 1", 5, 1, C, 0, Z | C);
        shift("SRA of 0x80", 5, 0x80, C, 0xC0, 0);
        shift("SWAP of 0xF0", 6, 0xF0, 0xF0, 0x0F, 0);
        shift("SWAP of 0, C", 6, 0, C, 0, Z);
        shift("SWAP of 255, C", 6, 255, C, 255, 0);
        shift("SRL of 1", 7, 1, C, 0, Z | C);
        shift("SRL of 0x80", 7, 0x80, C, 0x40, 0);
    }

    // "x 1: Z is 1 if bit y is 0 (N 0, H 1); x 2, 3: bit y is 0, 1"
    private static void bits() {
        for (int y = 0; y < 8; y += 7) {
            combine("bit " + y + " is 1", 0xCB, 1 << y, 0x47 + 8 * y, Z | N | C, 1 << y, H | C);
            combine("bit " + y + " is 0", 0xCB, 255 - (1 << y), 0x47 + 8 * y, N, 255 - (1 << y), Z | H);
            combine("bit " + y + " to 0", 0xCB, 255, 0x87 + 8 * y, 0x50, 255 - (1 << y), 0x50);
            combine("bit " + y + " to 1", 0xCB, 0, 0xC7 + 8 * y, 0xA0, 1 << y, 0xA0);
        }
    }

    // "cc: 0 not Z, 1 Z, 2 not C, 3 C": N and H are nothing to them.
    private static void conditions() {
        int[] holds = {N | H | C, Z, Z | N | H, C};
        int[] not = {Z, N | H | C, C, Z | N | H};
        for (int cc = 0; cc < 4; cc++) {
            TileConsole x = Check.program(0x20 + 8 * cc, 0x10);
            x.set(Check.F, holds[cc]);
            x.run(1);
            Check.equal("cc " + cc + " holds", 0xC012, x.register(Check.PC));
            TileConsole y = Check.program(0x20 + 8 * cc, 0x10);
            y.set(Check.F, not[cc]);
            y.run(1);
            Check.equal("cc " + cc + " does not", 0xC002, y.register(Check.PC));
        }
    }

    // "2 STOP (n is passed over; DIV is 0)"
    private static void stops() {
        TileConsole x = Check.program(0x00);
        x.run(100);
        Check.load(x, 0x10, 0xD3, 0x3C);
        Check.equal("DIV before", 1, x.read(0xFF04));
        Check.equal("two OCTETS, two CYCLES", 2, x.run(1));
        Check.equal("DIV", 0, x.read(0xFF04));
        Check.equal("n is not done", 0xC002, x.register(Check.PC));
        Check.equal("it does not HALT", 0, x.count(Check.HALTS));
        x.run(1);
        Check.equal("it goes on", 2, x.register(Check.A));
    }

    // "Others LOCK the processor."
    private static void locks() {
        int[] others = {0xD3, 0xDB, 0xDD, 0xE3, 0xE4, 0xEB, 0xEC, 0xED, 0xF4, 0xFC, 0xFD};
        for (int i : others) {
            TileConsole x = Check.program(i);
            Check.refuses("LOCKS: " + i, UnsupportedOperationException.class, () -> x.run(1));
            Check.equal("LOCKED: " + i, 1, x.count(Check.LOCKED));
        }
        int[] neighbours = {0xD2, 0xD4, 0xDA, 0xDC, 0xDE, 0xE2, 0xE5, 0xEA, 0xEE, 0xF3, 0xF5, 0xFB, 0xFE};
        for (int i : neighbours) {
            TileConsole x = Check.program(i);
            x.set(Check.SP, 0xC300);
            x.run(1);
            Check.equal("not LOCKED: " + i, 0, x.count(Check.LOCKED));
        }
    }

    // "EI (if IME is 0: it is 1 behind the INSTRUCTION that follows"
    private static void enable() {
        TileConsole x = Check.program(0xFB, 0x3C, 0x3C);
        x.set(Check.SP, 0xC300);
        x.set(Check.A, 0);
        Check.put(x, IE, 1);
        Check.put(x, IF, 1);
        x.run(1);
        Check.equal("behind EI", 0, x.count(Check.IME));
        x.run(1);
        Check.equal("one INSTRUCTION follows before an interrupt", 1, x.register(Check.A));
        Check.equal("behind it", 1, x.count(Check.IME));
        x.run(1);
        Check.equal("then the interrupt", 0x40, x.register(Check.PC));
        Check.equal("IME", 0, x.count(Check.IME));
        x.run(1);
        Check.equal("EI is done with", 0, x.count(Check.IME));
    }

    // "EI (if IME is 0": with IME 1 an interrupt right behind it leaves IME 0.
    private static void enableWhenItIs() {
        TileConsole x = Check.program(0xFB, 0x00, 0xFB, 0x00);
        x.set(Check.SP, 0xC300);
        x.run(3);
        Check.equal("IME is still 1", 1, x.count(Check.IME));
        Check.put(x, IE, 1);
        Check.put(x, IF, 1);
        x.run(1);
        Check.equal("interrupt at once", 0x40, x.register(Check.PC));
        Check.equal("IME is 0", 0, x.count(Check.IME));
        x.run(1);
        Check.equal("and stays 0", 0, x.count(Check.IME));
    }

    // "behind the INSTRUCTION that follows", when that is EI itself
    private static void enableTwice() {
        TileConsole x = Check.program(0xFB, 0xFB, 0x00);
        x.set(Check.SP, 0xC300);
        Check.put(x, IE, 1);
        Check.put(x, IF, 1);
        x.run(2);
        Check.equal("IME behind the second EI", 1, x.count(Check.IME));
        Check.equal("the interrupt", 5, x.run(1));
        Check.equal("PC", 0x40, x.register(Check.PC));
        Check.equal("IME", 0, x.count(Check.IME));
    }

    // "if that is no DI)"
    private static void enableThenDisable() {
        TileConsole x = Check.program(0xFB, 0xF3, 0x00, 0x00);
        for (int i = 0; i < 4; i++) {
            x.run(1);
            Check.equal("EI, DI: IME behind " + i, 0, x.count(Check.IME));
        }
        TileConsole y = Check.program(0xFB, 0x00, 0xF3, 0x00);
        y.run(2);
        Check.equal("EI, nothing: IME", 1, y.count(Check.IME));
        y.run(1);
        Check.equal("DI at once", 0, y.count(Check.IME));
        y.run(1);
        Check.equal("DI stays", 0, y.count(Check.IME));
    }

    // "it is 1 behind the INSTRUCTION that follows", when that LOCKS
    private static void enableThenLock() {
        TileConsole x = Check.program(0xFB, 0xED);
        Check.refuses("EI, LOCK", UnsupportedOperationException.class, () -> x.run(2));
        Check.equal("EI, LOCK: IME", 1, x.count(Check.IME));
        Check.equal("EI, LOCK: done", 1, x.count(Check.DONE));
    }

    // "1 RETI (IME 1)": at once
    private static void returnEnables() {
        TileConsole x = Check.program(0xD9);
        x.set(Check.SP, 0xC300);
        Check.putAll(x, 0xC300, 0x00, 0xC1);
        Check.put(x, IE, 1);
        Check.put(x, IF, 1);
        x.run(1);
        Check.equal("IME", 1, x.count(Check.IME));
        Check.equal("interrupt right behind RETI", 5, x.run(1));
        Check.equal("where RETI went", 0xC100, Check.word(x, 0xC300));
    }

    // "1 more for z 3 of x 0, HL + w, ... PUSH, ... SP is HL, HL is SP + e ...; 2 more for SP is SP + e"
    private static void timeOfWords() {
        int[][] asked = {{0x03, 2}, {0x3B, 2}, {0x09, 2}, {0x39, 2}, {0xC5, 4}, {0xF5, 4}, {0xC1, 3}, {0xF9, 2}, {0xF8, 3},
            {0xE8, 4}, {0x08, 5}, {0x01, 3}, {0xE9, 1}, {0xC7, 4}, {0x34, 3}, {0x36, 3}, {0xEA, 4}, {0xE0, 3}, {0xE2, 2}};
        for (int[] a : asked) {
            TileConsole x = Check.program(a[0], 0x80, 0xC1);
            Check.setPair(x, Check.H, HL);
            x.set(Check.SP, 0xC300);
            Check.equal("time of " + a[0], a[1], x.run(1));
        }
    }

    // "JR, JP nn and CALL when they go, ... RET, RETI, RST, ... RET cc (2 if it goes)"
    private static void timeWhenTheyGo() {
        int[][] asked = {{0x28, 3, 2}, {0xCA, 4, 3}, {0xCC, 6, 3}, {0xC8, 5, 2}, {0x38, 3, 2}, {0xDA, 4, 3}, {0xDC, 6, 3}, {0xD8, 5, 2}};
        for (int[] a : asked) {
            for (int goes = 0; goes < 2; goes++) {
                TileConsole x = Check.program(a[0], 0x00, 0xC1);
                x.set(Check.SP, 0xC300);
                x.set(Check.F, goes == 1 ? 0xF0 : 0);
                Check.equal("time of " + a[0] + ", goes " + goes, a[2 - goes], x.run(1));
            }
        }
        int[][] always = {{0x18, 3}, {0xC3, 4}, {0xCD, 6}, {0xC9, 4}, {0xD9, 4}};
        for (int[] a : always) {
            TileConsole x = Check.program(a[0], 0x00, 0xC1);
            x.set(Check.SP, 0xC300);
            Check.equal("time of " + a[0], a[1], x.run(1));
        }
    }

    // "HALT: 1 for each INSTRUCTION that is not done."
    private static void haltTime() {
        TileConsole x = Check.program(0x76, 0x3C);
        Check.equal("HALT itself", 1, x.run(1));
        Check.equal("one not done", 1, x.run(1));
        Check.equal("a hundred not done", 100, x.run(100));
        Check.equal("they pass: S", 102 / 64, x.read(0xFF04));
        Check.equal("they are not done", 1, x.count(Check.DONE));
    }

    // "if IE & IF & 31 is not 0, it HALTS no more"
    private static void haltEnds() {
        int[][] asked = {{0x01, 0x01, 0}, {0x10, 0x10, 0}, {0x0F, 0x10, 1}, {0x10, 0x0F, 1}, {0xE0, 0x1F, 1}, {0x1F, 0x00, 1}, {0xFF, 0x08, 0}};
        for (int[] a : asked) {
            TileConsole x = Check.program(0x76, 0x3C);
            x.set(Check.A, 0);
            x.run(1);
            Check.put(x, IE, a[0]);
            Check.put(x, IF, a[1]);
            x.run(1);
            Check.equal("IE " + a[0] + ", IF " + a[1] + ": HALTS", a[2], x.count(Check.HALTS));
            Check.equal("IE " + a[0] + ", IF " + a[1] + ": A", 1 - a[2], x.register(Check.A));
            Check.equal("IF stays with IME 0", 0xE0 | a[1], x.read(IF));
        }
    }

    /** IME is 1, PC 0xC002, SP 0xC300. */
    private static TileConsole enabled() {
        TileConsole x = Check.program(0xFB, 0x00, 0x3C, 0x3C);
        x.set(Check.SP, 0xC300);
        x.run(2);
        return x;
    }

    // "IME is 0, the lowest of these bits is 0 in IF, PC is pushed, PC is 0x40 + 8 times its number: 5 CYCLES"
    private static void interruptBits() {
        for (int bit = 0; bit < 5; bit++) {
            TileConsole x = enabled();
            Check.put(x, IE, 1 << bit);
            Check.put(x, IF, 0x1F);
            Check.equal("interrupt " + bit, 5, x.run(1));
            Check.equal("interrupt " + bit + ": PC", 0x40 + 8 * bit, x.register(Check.PC));
            Check.equal("interrupt " + bit + ": IF", 0xFF - (1 << bit), x.read(IF));
            Check.equal("interrupt " + bit + ": IME", 0, x.count(Check.IME));
            Check.equal("interrupt " + bit + ": pushed", 0xC002, Check.word(x, 0xC2FE));
        }
    }

    // "the lowest of these bits"
    private static void interruptLowest() {
        for (int waiting = 1; waiting < 32; waiting++) {
            TileConsole x = enabled();
            Check.put(x, IE, 0xFF);
            Check.put(x, IF, waiting);
            x.run(1);
            int number = Integer.numberOfTrailingZeros(waiting);
            Check.equal("lowest of " + waiting, 0x40 + 8 * number, x.register(Check.PC));
            Check.equal("the rest of " + waiting, 0xE0 | waiting & waiting - 1, x.read(IF));
        }
    }

    // "if IE & IF & 31 is not 0 ...; if IME is 1 then, too"
    private static void interruptNeedsAll() {
        int[][] asked = {{0x00, 0x1F}, {0xE0, 0x1F}, {0x1F, 0x00}, {0x0A, 0x15}};
        for (int[] a : asked) {
            TileConsole x = enabled();
            Check.put(x, IE, a[0]);
            Check.put(x, IF, a[1]);
            x.run(1);
            Check.equal("IE " + a[0] + ", IF " + a[1] + ": none", 0, x.count(Check.TAKEN));
            Check.equal("IE " + a[0] + ", IF " + a[1] + ": PC", 0xC003, x.register(Check.PC));
            Check.equal("IE " + a[0] + ", IF " + a[1] + ": IME", 1, x.count(Check.IME));
        }
        TileConsole x = Check.program(0x3C);
        Check.put(x, IE, 0x1F);
        Check.put(x, IF, 0x1F);
        x.run(1);
        Check.equal("IME 0: none", 0, x.count(Check.TAKEN));
    }

    // "the lowest of these bits is 0 in IF, PC is pushed": in this order, where SP points to IF or IE.
    private static void interruptPushesBehindIf() {
        TileConsole x = enabled();
        x.set(Check.SP, 0xFF11);
        Check.put(x, IE, 0x10);
        Check.put(x, IF, 0x10);
        x.run(1);
        Check.equal("IF is PC's lower octet", 0xE2, x.read(IF));
        Check.equal("PC", 0x60, x.register(Check.PC));
        TileConsole y = enabled();
        y.set(Check.SP, 0);
        Check.put(y, IE, 0x04);
        Check.put(y, IF, 0x04);
        y.run(1);
        Check.equal("IE is PC's upper octet", 0xC0, y.read(IE));
        Check.equal("PC is chosen before", 0x50, y.register(Check.PC));
        Check.equal("SP", 0xFFFE, y.register(Check.SP));
    }
}
