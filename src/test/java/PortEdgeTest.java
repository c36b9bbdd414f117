/** The terms PORTS and "Each CYCLE" at their edges, a method for each sentence, whose words stand above it. */
public final class PortEdgeTest {
    private static final int DIV = 0xFF04;
    private static final int TIMA = 0xFF05;
    private static final int TMA = 0xFF06;
    private static final int TAC = 0xFF07;
    private static final int IF = 0xFF0F;
    private static final int LCDC = 0xFF40;
    private static final int STAT = 0xFF41;
    private static final int LY = 0xFF44;
    private static final int LYC = 0xFF45;

    public static void main(String[] args) {
        portsWithoutName();
        keysUpperBits();
        keysAreZeroIfDown();
        dividerBits();
        dividerWritten();
        wholePorts();
        timerControlBits();
        interruptFlagBits();
        interruptEnableBits();
        statBits();
        rowIsOnlyRead();
        rowIsCompared();
        transferPlaces();
        transferEnds();
        timerMultiples();
        timerComesRound();
        timerNeedsBit();
        dotComesRound();
        rowsComeRound();
        frameFlag();
        stateOfDots();
        stateOfRows();
        screenIsOff();
        signalOfRow();
        signalOfStates();
        signalRises();
        signalNeedsScreen();
        cyclesPassBehind();
        Check.finish("PortEdgeTest");
    }

    /** JP to itself is at 0x200, and nothing but 0 from 0x300 on. */
    private static TileConsole idle() {
        TileConsole x = Check.console(0);
        x.rom(0, 0x200, 3, 0x0200C3);
        Check.put(x, IF, 0);
        return x;
    }

    private static void pass(TileConsole x, int cycles) {
        x.set(Check.PC, 0x200);
        int left = cycles / 4;
        for (; left > 100; left -= 100) {
            x.run(100);
        }
        if (left > 0) {
            x.run(left);
        }
        x.set(Check.PC, 0x300);
        if (cycles % 4 > 0) {
            x.run(cycles % 4);
        }
    }

    // "(others read 0xFF, writes are lost"
    private static void portsWithoutName() {
        TileConsole x = idle();
        int[][] ranges = {{0x01, 0x03}, {0x08, 0x0E}, {0x10, 0x3F}, {0x4C, 0x7F}};
        for (int[] range : ranges) {
            for (int low = range[0]; low <= range[1]; low++) {
                Check.put(x, 0xFF00 + low, low ^ 0x55);
                Check.equal("port " + low, 0xFF, x.read(0xFF00 + low));
            }
        }
        int[][] named = {{0x00, 0xCF}, {0x04, 0}, {0x05, 0}, {0x06, 0}, {0x07, 0xF8}, {0x0F, 0xE0}, {0x40, 0x91}, {0x41, 0x86},
            {0x42, 0}, {0x43, 0}, {0x44, 0}, {0x45, 0}, {0x46, 0}, {0x47, 0xFC}, {0x48, 0}, {0x49, 0}, {0x4A, 0}, {0x4B, 0}, {0xFF, 0}};
        for (int[] n : named) {
            Check.equal("port with a name " + n[0], n[1], x.read(0xFF00 + n[0]));
        }
    }

    // "0xFF00 KEYS: bits 5, 4 as written; ... bits 7, 6 are 1"
    private static void keysUpperBits() {
        TileConsole x = idle();
        for (int v = 0; v < 256; v += 3) {
            Check.put(x, 0xFF00, v);
            Check.equal("KEYS written " + v, 0xCF | v & 0x30, x.read(0xFF00));
        }
    }

    // "each is 0 if bit 4 is 0 and that key of 0 to 3 is down, or bit 5 is 0 and that of 4 to 7"
    private static void keysAreZeroIfDown() {
        for (int key = 0; key < 8; key++) {
            TileConsole x = idle();
            x.keys(1 << key);
            int shown = 0x0F - (1 << key % 4);
            int[][] asked = {{0x00, shown}, {0x10, key < 4 ? 0x0F : shown}, {0x20, key < 4 ? shown : 0x0F}, {0x30, 0x0F}};
            for (int[] a : asked) {
                Check.put(x, 0xFF00, a[0]);
                Check.equal("key " + key + ", KEYS " + a[0], 0xC0 | a[0] | a[1], x.read(0xFF00));
                Check.put(x, 0xFF00, a[0] | 0xCF);
                Check.equal("key " + key + ", KEYS' other bits 1", 0xC0 | a[0] | a[1], x.read(0xFF00));
            }
        }
        TileConsole x = idle();
        x.keys(0x81);
        Check.equal("one of each", 0xC6, x.read(0xFF00));
        x.keys(0x11);
        Check.equal("the same place twice", 0xCE, x.read(0xFF00));
    }

    // "0xFF04 DIV: the bits 6 to 13 of S"
    private static void dividerBits() {
        TileConsole x = idle();
        int[][] asked = {{63, 0}, {1, 1}, {63, 1}, {1, 2}, {16384 - 129, 255}, {1, 0}, {63, 0}, {1, 1}};
        for (int[] a : asked) {
            pass(x, a[0]);
            Check.equal("DIV at " + x.count(Check.CYCLES), a[1], x.read(DIV));
        }
        wholeCounter();
    }

    // "S (16 bits)": behind 65535 it begins anew.
    private static void wholeCounter() {
        TileConsole x = idle();
        pass(x, 65535);
        Check.equal("DIV at 65535", 255, x.read(DIV));
        Check.put(x, TAC, 4);
        pass(x, 1);
        Check.equal("DIV at 65536", 0, x.read(DIV));
        Check.equal("0 is a multiple", 1, x.read(TIMA));
        pass(x, 255);
        Check.equal("TIMA at 255", 1, x.read(TIMA));
        pass(x, 1);
        Check.equal("TIMA at 256", 2, x.read(TIMA));
    }

    // "a write makes S 0"
    private static void dividerWritten() {
        int[] values = {0, 1, 255};
        for (int v : values) {
            TileConsole x = idle();
            pass(x, 1000);
            Check.put(x, DIV, v);
            Check.equal("DIV written " + v, 0, x.read(DIV));
            pass(x, 63);
            Check.equal("63 later", 0, x.read(DIV));
            pass(x, 1);
            Check.equal("64 later", 1, x.read(DIV));
        }
    }

    // "those named read as they are, unless said"
    private static void wholePorts() {
        int[] whole = {0x05, 0x06, 0x40, 0x42, 0x43, 0x45, 0x46, 0x47, 0x48, 0x49, 0x4A, 0x4B, 0xFF};
        int[] values = {255, 0, 128, 1};
        for (int low : whole) {
            for (int v : values) {
                TileConsole x = idle();
                Check.put(x, 0xFF00 + low, v);
                Check.equal("port " + low, v, x.read(0xFF00 + low));
            }
        }
    }

    // "0xFF07 TAC (three bits, others 1)"
    private static void timerControlBits() {
        TileConsole x = idle();
        for (int v = 0; v < 256; v += 3) {
            Check.put(x, TAC, v);
            Check.equal("TAC " + v, 0xF8 | v % 8, x.read(TAC));
        }
    }

    // "0xFF0F IF (upper three bits 1)"
    private static void interruptFlagBits() {
        TileConsole x = idle();
        for (int v = 0; v < 256; v += 3) {
            Check.put(x, IF, v);
            Check.equal("IF " + v, 0xE0 | v % 32, x.read(IF));
        }
    }

    // "0xFFFF IE (eight bits)"
    private static void interruptEnableBits() {
        TileConsole x = idle();
        for (int v = 0; v < 256; v += 3) {
            Check.put(x, 0xFFFF, v);
            Check.equal("IE " + v, v, x.read(0xFFFF));
        }
    }

    // "0xFF41 STAT (bits 6 to 3 as written; 2: LY is LYC; 1, 0 the STATE; 7 is 1)"
    private static void statBits() {
        TileConsole x = idle();
        int[] values = {0x00, 0x07, 0x08, 0x40, 0x78, 0x80, 0x87, 0xFF};
        for (int v : values) {
            Check.put(x, STAT, v);
            Check.equal("STAT " + v + ", LY is LYC, STATE 2", 0x86 | v & 0x78, x.read(STAT));
            Check.put(x, LYC, 9);
            Check.equal("STAT " + v + ", LY is not LYC", 0x82 | v & 0x78, x.read(STAT));
            Check.put(x, LYC, 0);
        }
    }

    // "44 LY (only read)"
    private static void rowIsOnlyRead() {
        TileConsole x = idle();
        pass(x, 114 * 3);
        int[] values = {0, 4, 143, 255};
        for (int v : values) {
            Check.put(x, LY, v);
            Check.equal("LY written " + v, 3, x.read(LY));
        }
        pass(x, 114);
        Check.equal("LY goes on", 4, x.read(LY));
    }

    // "2: LY is LYC", over all that LY can be
    private static void rowIsCompared() {
        int[] rows = {1, 143, 144, 153};
        for (int row : rows) {
            TileConsole x = idle();
            Check.put(x, LYC, row);
            pass(x, 114 * row - 1);
            Check.equal("before LY " + row, 0, x.read(STAT) & 4);
            pass(x, 1);
            Check.equal("at LY " + row, 4, x.read(STAT) & 4);
            pass(x, 113);
            Check.equal("at the end of LY " + row, 4, x.read(STAT) & 4);
            pass(x, 1);
            Check.equal("behind LY " + row, 0, x.read(STAT) & 4);
        }
        TileConsole x = idle();
        Check.put(x, LYC, 154);
        pass(x, 114 * 154 - 1);
        Check.equal("LY 153 is not 154", 0, x.read(STAT) & 4);
        pass(x, 1);
        Check.equal("there is no LY 154", 0, x.read(STAT) & 4);
    }

    // "46 (reads as written; the 160 OCTETS from v * 256 on come to SPRITES, one by one)"
    private static void transferPlaces() {
        TileConsole x = idle();
        x.rom(0, 0, 1, 0x51);
        x.rom(0, 0x9F, 1, 0x52);
        x.rom(1, 0x39F, 1, 0x53);
        Check.put(x, 0x8000, 0x54);
        Check.put(x, 0xA09F, 0x55);
        Check.put(x, 0xC100, 0x56);
        Check.put(x, 0xC19F, 0x57);
        Check.put(x, 0xFF9F, 0x58);
        int[][] asked = {{0x00, 0x51, 0x52}, {0x3C, 0x51, 0x52}, {0x7F, 0, 0x53}, {0x80, 0x54, 0}, {0xBF, 0, 0x55},
            {0xC1, 0x56, 0x57}, {0xFD, 0x56, 0x57}, {0xFE, 0x56, 0x57}, {0xFF, 0xCF, 0x58}};
        for (int[] a : asked) {
            Check.put(x, 0xFF46, a[0]);
            Check.equal("0xFF46 written " + a[0], a[0], x.read(0xFF46));
            Check.equal("first from " + a[0], a[1], x.read(0xFE00));
            Check.equal("last from " + a[0], a[2], x.read(0xFE9F));
        }
        Check.equal("no CYCLES", 0, x.count(Check.CYCLES));
    }

    // "the 160 OCTETS": no fewer and no more
    private static void transferEnds() {
        TileConsole x = idle();
        for (int i = 0; i < 168; i += 8) {
            x.write(0xC000 + i, 8, 0x0101010101010101L);
        }
        Check.put(x, 0xFF46, 0xC0);
        for (int i = 0; i < 160; i++) {
            Check.equal("SPRITES " + i, 1, x.read(0xFE00 + i));
        }
        Check.equal("behind them", 0xFF, x.read(0xFEA0));
        Check.equal("KEYS is untouched", 0xCF, x.read(0xFF00));
    }

    // "if TAC has bit 2 and S is a multiple of 256, 4, 16, 64 (TAC & 3): TIMA is one more"
    private static void timerMultiples() {
        int[] multiples = {256, 4, 16, 64};
        for (int k = 0; k < 4; k++) {
            TileConsole x = idle();
            Check.put(x, TAC, 4 + k);
            pass(x, multiples[k] - 1);
            Check.equal("TAC " + k + ": before", 0, x.read(TIMA));
            pass(x, 1);
            Check.equal("TAC " + k + ": then", 1, x.read(TIMA));
            pass(x, 9 * multiples[k] - 1);
            Check.equal("TAC " + k + ": before ten", 9, x.read(TIMA));
            pass(x, 1);
            Check.equal("TAC " + k + ": ten", 10, x.read(TIMA));
            Check.put(x, DIV, 0);
            Check.equal("TAC " + k + ": S made 0 is no CYCLE", 10, x.read(TIMA));
        }
    }

    // "from 255: it is TMA, and IF has bit 2"
    private static void timerComesRound() {
        int[] again = {0, 1, 254, 255};
        for (int tma : again) {
            TileConsole x = idle();
            Check.put(x, TMA, tma);
            Check.put(x, TIMA, 254);
            Check.put(x, TAC, 5);
            pass(x, 4);
            Check.equal("255", 255, x.read(TIMA));
            Check.equal("IF at 255", 0xE0, x.read(IF));
            pass(x, 4);
            Check.equal("TMA " + tma, tma, x.read(TIMA));
            Check.equal("IF behind it", 0xE4, x.read(IF));
            Check.put(x, IF, 0);
            pass(x, 4);
            Check.equal("then, TMA " + tma, tma == 255 ? 255 : tma + 1, x.read(TIMA));
            Check.equal("IF then, TMA " + tma, tma == 255 ? 0xE4 : 0xE0, x.read(IF));
        }
    }

    // "if TAC has bit 2"
    private static void timerNeedsBit() {
        for (int tac = 0; tac < 4; tac++) {
            TileConsole x = idle();
            Check.put(x, TAC, tac);
            Check.put(x, TIMA, 255);
            pass(x, 512);
            Check.equal("TIMA with TAC " + tac, 255, x.read(TIMA));
            Check.equal("IF with TAC " + tac, 0xE0, x.read(IF));
        }
    }

    // "DOT is one more; at 114: DOT is 0, LY one more"
    private static void dotComesRound() {
        TileConsole x = idle();
        for (int row = 0; row < 4; row++) {
            Check.equal("LY at its beginning", row, x.read(LY));
            pass(x, 113);
            Check.equal("LY at DOT 113", row, x.read(LY));
            pass(x, 1);
        }
    }

    // "(154: 0)"
    private static void rowsComeRound() {
        TileConsole x = idle();
        pass(x, 154 * 114 - 1);
        Check.equal("LY 153", 153, x.read(LY));
        pass(x, 1);
        Check.equal("LY 0", 0, x.read(LY));
        pass(x, 114);
        Check.equal("LY 1", 1, x.read(LY));
    }

    // "at 144: IF has bit 0"
    private static void frameFlag() {
        TileConsole x = idle();
        pass(x, 144 * 114 - 1);
        Check.equal("LY 143: IF", 0xE0, x.read(IF));
        pass(x, 1);
        Check.equal("LY 144: IF", 0xE1, x.read(IF));
        Check.put(x, IF, 0);
        pass(x, 154 * 114 - 1);
        Check.equal("up to the next: IF", 0xE0, x.read(IF));
        pass(x, 1);
        Check.equal("LY 144 again: IF", 0xE1, x.read(IF));
    }

    // "else 2 for DOT below 20, 3 below 63, else 0"
    private static void stateOfDots() {
        int[] rows = {0, 143};
        for (int row : rows) {
            TileConsole x = idle();
            pass(x, 114 * row);
            int[][] asked = {{0, 2}, {19, 2}, {1, 3}, {42, 3}, {1, 0}, {50, 0}};
            for (int[] a : asked) {
                pass(x, a[0]);
                Check.equal("STATE in LY " + row + " at CYCLE " + x.count(Check.CYCLES), a[1], x.read(STAT) & 3);
            }
        }
    }

    // "STATE: 1 from LY 144 on"
    private static void stateOfRows() {
        TileConsole x = idle();
        pass(x, 144 * 114 - 1);
        Check.equal("end of LY 143", 0, x.read(STAT) & 3);
        pass(x, 1);
        int[] steps = {0, 19, 1, 42, 1, 51, 9 * 114 - 1};
        for (int step : steps) {
            pass(x, step);
            Check.equal("STATE at CYCLE " + x.count(Check.CYCLES), 1, x.read(STAT) & 3);
        }
        pass(x, 1);
        Check.equal("LY 0", 2, x.read(STAT) & 3);
    }

    // "Without LCDC's bit 7: DOT, LY are 0, the STATE 0."
    private static void screenIsOff() {
        int[] before = {0, 30, 100, 114 * 3 + 70, 114 * 150};
        for (int cycles : before) {
            TileConsole x = idle();
            pass(x, cycles);
            Check.put(x, IF, 0);
            Check.put(x, LCDC, 0x7F);
            Check.equal("off: LY", 0, x.read(LY));
            Check.equal("off: STATE, and LY is LYC", 0x84, x.read(STAT));
            pass(x, 200);
            Check.equal("off, later: LY", 0, x.read(LY));
            Check.equal("off, later: STATE", 0x84, x.read(STAT));
            Check.put(x, LCDC, 0x80);
            Check.equal("on: STATE 2", 2, x.read(STAT) & 3);
            pass(x, 19);
            Check.equal("on, DOT 19", 2, x.read(STAT) & 3);
            pass(x, 1);
            Check.equal("on, DOT 20", 3, x.read(STAT) & 3);
            pass(x, 94);
            Check.equal("on, LY 1", 1, x.read(LY));
            Check.equal("no frame came", 0xE0, x.read(IF));
        }
    }

    // "SIGNAL: (STAT bit 6 and LY is LYC)"
    private static void signalOfRow() {
        int[] rows = {1, 144, 153};
        for (int row : rows) {
            TileConsole x = idle();
            Check.put(x, STAT, 0x40);
            Check.put(x, LYC, row);
            pass(x, 114 * row - 1);
            Check.equal("before LY " + row, 0, x.read(IF) & 2);
            pass(x, 1);
            Check.equal("at LY " + row, 2, x.read(IF) & 2);
            Check.put(x, IF, 0);
            pass(x, 153 * 114);
            Check.equal("until LY " + row + " again", 0, x.read(IF) & 2);
            pass(x, 114);
            Check.equal("at LY " + row + " again", 2, x.read(IF) & 2);
        }
    }

    // "or bit 5 and STATE 2, bit 4 and 1, bit 3 and 0"
    private static void signalOfStates() {
        int[][] asked = {{0x20, 114, 2}, {0x10, 144 * 114, 2}, {0x08, 63, 2}, {0x00, 144 * 114, 0}};
        for (int[] a : asked) {
            TileConsole x = idle();
            Check.put(x, LYC, 200);
            pass(x, 1);
            Check.put(x, STAT, a[0]);
            // Behind the STATE 2 that there is already, for which bit 5 counts.
            pass(x, 20);
            Check.put(x, IF, 0);
            pass(x, a[1] - 22);
            Check.equal("STAT " + a[0] + ": before", 0, x.read(IF) & 2);
            pass(x, 1);
            Check.equal("STAT " + a[0] + ": then", a[2], x.read(IF) & 2);
        }
    }

    // "when it was not and is, IF has bit 1 (looked at behind each CYCLE)"
    private static void signalRises() {
        TileConsole x = idle();
        Check.put(x, LYC, 1);
        Check.put(x, STAT, 0x68);
        pass(x, 1);
        Check.equal("STATE 2", 0xE2, x.read(IF));
        Check.put(x, IF, 0);
        pass(x, 61);
        Check.equal("STATE 2 goes on, then STATE 3", 0xE0, x.read(IF));
        pass(x, 1);
        Check.equal("STATE 0", 0xE2, x.read(IF));
        Check.put(x, IF, 0);
        pass(x, 114 + 51);
        Check.equal("STATE 0, then all of LY 1, then STATE 2", 0xE0, x.read(IF));
        Check.put(x, STAT, 0);
        Check.put(x, STAT, 0x20);
        pass(x, 1);
        Check.equal("taken away without a CYCLE", 0xE0, x.read(IF));
        Check.put(x, STAT, 0);
        pass(x, 1);
        Check.put(x, STAT, 0x20);
        Check.equal("there without a CYCLE", 0xE0, x.read(IF));
        pass(x, 1);
        Check.equal("taken away for a CYCLE", 0xE2, x.read(IF));
    }

    // "none without LCDC's bit 7"
    private static void signalNeedsScreen() {
        TileConsole x = idle();
        Check.put(x, LCDC, 0x11);
        Check.put(x, STAT, 0x78);
        pass(x, 10);
        Check.equal("off: LY is LYC, STATE 0", 0xE0, x.read(IF));
        Check.put(x, LCDC, 0x91);
        pass(x, 1);
        Check.equal("on", 0xE2, x.read(IF));
        Check.put(x, IF, 0);
        Check.put(x, LCDC, 0x11);
        pass(x, 1);
        Check.put(x, LCDC, 0x91);
        pass(x, 1);
        Check.equal("off for a CYCLE and on", 0xE2, x.read(IF));
    }

    // "CYCLES of an INSTRUCTION pass behind it."
    private static void cyclesPassBehind() {
        TileConsole x = idle();
        pass(x, 63);
        Check.load(x, 0xF0, 0x04, 0xF0, 0x04);
        x.run(1);
        Check.equal("read before its own CYCLES", 0, x.register(Check.A));
        Check.equal("then they have passed", 1, x.read(DIV));
        TileConsole y = idle();
        Check.put(y, TAC, 5);
        Check.load(y, 0xE0, 0x05, 0xC3, 0x00, 0xC0);
        y.set(Check.A, 0x33);
        y.run(1);
        Check.equal("written before its own CYCLES", 0x33, y.read(TIMA));
        y.run(1);
        Check.equal("one multiple of 4 in the next four", 0x34, y.read(TIMA));
        TileConsole z = idle();
        Check.put(z, TIMA, 255);
        Check.put(z, TMA, 9);
        Check.put(z, 0xFFFF, 4);
        Check.load(z, 0xFB, 0xE0, 0x07, 0x00);
        z.set(Check.A, 5);
        z.set(Check.SP, 0xC300);
        z.run(2);
        Check.equal("TAC written, three CYCLES behind it", 9, z.read(TIMA));
        z.run(1);
        Check.equal("so that the interrupt comes before the next", 0x50, z.register(Check.PC));
    }
}
