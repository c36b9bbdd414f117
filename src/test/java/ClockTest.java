/** What each CYCLE does: S and DIV, TIMA, DOT and LY, STATE, SIGNAL; promise 13 (speed). */
public final class ClockTest {
    private static final int STAT = 0xFF41;
    private static final int LY = 0xFF44;
    private static final int IF = 0xFF0F;

    public static void main(String[] args) {
        divider();
        dividerIsCleared();
        stopClearsDivider();
        timerRates();
        timerOverflow();
        timerOff();
        dotsAndRows();
        frame();
        states();
        screenOff();
        signalOfState();
        signalOfRow();
        signalOnlyRises();
        signalIsLookedAtBehindCycles();
        cyclesPassBehind();
        speed();
        Check.finish("ClockTest");
    }

    // ROM is full of 0: each instruction from 0x100 on is one cycle, unless the PC comes to 0x14D.
    private static TileConsole idle() {
        TileConsole x = Check.console(0);
        Check.put(x, IF, 0);
        x.set(Check.PC, 0x200);
        return x;
    }

    private static void pass(TileConsole x, int cycles) {
        for (int left = cycles; left > 0; left -= 100) {
            int n = Math.min(left, 100);
            x.set(Check.PC, 0x200);
            x.run(n);
        }
    }

    private static void divider() {
        TileConsole x = idle();
        pass(x, 63);
        Check.equal("DIV at 63", 0, x.read(0xFF04));
        pass(x, 1);
        Check.equal("DIV at 64", 1, x.read(0xFF04));
        pass(x, 64 * 254);
        Check.equal("DIV at 255 * 64", 255, x.read(0xFF04));
        pass(x, 64);
        Check.equal("DIV comes round", 0, x.read(0xFF04));
    }

    private static void dividerIsCleared() {
        TileConsole x = idle();
        pass(x, 127);
        Check.put(x, 0xFF04, 0x55);
        Check.equal("DIV is 0 after a write", 0, x.read(0xFF04));
        pass(x, 63);
        Check.equal("S was 0", 0, x.read(0xFF04));
        pass(x, 1);
        Check.equal("S is 64", 1, x.read(0xFF04));
    }

    private static void stopClearsDivider() {
        TileConsole x = idle();
        pass(x, 100);
        Check.load(x, 0x10, 0x3C, 0x00);
        Check.equal("STOP's cycles", 2, x.run(1));
        Check.equal("STOP passes n over", Check.WORK + 2, x.register(Check.PC));
        Check.equal("STOP: A", 1, x.register(Check.A));
        Check.equal("STOP: DIV", 0, x.read(0xFF04));
        pass(x, 61);
        Check.equal("S is 63", 0, x.read(0xFF04));
        pass(x, 1);
        Check.equal("S is 64", 1, x.read(0xFF04));
    }

    private static void timerRates() {
        int[] rates = {256, 4, 16, 64};
        for (int k = 0; k < 4; k++) {
            TileConsole x = idle();
            Check.put(x, 0xFF07, 4 + k);
            pass(x, rates[k] - 1);
            Check.equal("TIMA before, TAC & 3 is " + k, 0, x.read(0xFF05));
            pass(x, 1);
            Check.equal("TIMA then, TAC & 3 is " + k, 1, x.read(0xFF05));
            pass(x, 2 * rates[k] - 1);
            Check.equal("TIMA before 3, TAC & 3 is " + k, 2, x.read(0xFF05));
            pass(x, 1);
            Check.equal("TIMA 3, TAC & 3 is " + k, 3, x.read(0xFF05));
        }
        TileConsole x = idle();
        pass(x, 3);
        Check.put(x, 0xFF07, 5);
        pass(x, 1);
        Check.equal("S's multiples, not those since TAC", 1, x.read(0xFF05));
    }

    private static void timerOverflow() {
        TileConsole x = idle();
        Check.put(x, 0xFF07, 5);
        Check.put(x, 0xFF06, 0xF0);
        Check.put(x, 0xFF05, 0xFE);
        pass(x, 4);
        Check.equal("TIMA 255", 255, x.read(0xFF05));
        Check.equal("no IF yet", 0xE0, x.read(IF));
        pass(x, 3);
        Check.equal("TIMA 255 still", 255, x.read(0xFF05));
        pass(x, 1);
        Check.equal("TIMA is TMA", 0xF0, x.read(0xFF05));
        Check.equal("IF has bit 2", 0xE4, x.read(IF));
        Check.put(x, IF, 0);
        pass(x, 64);
        Check.equal("TMA again", 0xF0, x.read(0xFF05));
        Check.equal("IF again", 0xE4, x.read(IF));
        Check.equal("TMA stays", 0xF0, x.read(0xFF06));
        Check.put(x, IF, 0x19);
        pass(x, 64);
        Check.equal("IF's other bits stay", 0xFD, x.read(IF));
    }

    private static void timerOff() {
        TileConsole x = idle();
        for (int k = 0; k < 4; k++) {
            Check.put(x, 0xFF07, k);
            pass(x, 256);
            Check.equal("TIMA without TAC's bit 2", 0, x.read(0xFF05));
        }
    }

    private static void dotsAndRows() {
        TileConsole x = idle();
        pass(x, 113);
        Check.equal("LY at 113", 0, x.read(LY));
        pass(x, 1);
        Check.equal("LY at 114", 1, x.read(LY));
        pass(x, 113);
        Check.equal("LY at 227", 1, x.read(LY));
        pass(x, 1);
        Check.equal("LY at 228", 2, x.read(LY));
    }

    private static void frame() {
        TileConsole x = idle();
        pass(x, 144 * 114 - 1);
        Check.equal("LY 143", 143, x.read(LY));
        Check.equal("IF before", 0xE0, x.read(IF));
        pass(x, 1);
        Check.equal("LY 144", 144, x.read(LY));
        Check.equal("IF has bit 0", 0xE1, x.read(IF));
        Check.equal("STATE 1", 0x81, x.read(STAT) & 0x83);
        Check.put(x, IF, 0);
        otherBitsStay();
        pass(x, 10 * 114 - 1);
        Check.equal("LY 153", 153, x.read(LY));
        Check.equal("STATE 1 at the end", 0x81, x.read(STAT) & 0x83);
        pass(x, 1);
        Check.equal("LY 0 again", 0, x.read(LY));
        Check.equal("STATE 2 again", 0x82, x.read(STAT) & 0x83);
        Check.equal("no IF more", 0xE0, x.read(IF));
    }

    private static void otherBitsStay() {
        TileConsole x = idle();
        Check.put(x, IF, 0x1C);
        Check.put(x, STAT, 0x10);
        pass(x, 144 * 114 - 1);
        Check.equal("IF before", 0xFC, x.read(IF));
        pass(x, 1);
        Check.equal("FRAME and STATE", 0xFF, x.read(IF));
        TileConsole y = idle();
        Check.put(y, IF, 0x08);
        Check.put(y, STAT, 0x20);
        pass(y, 1);
        Check.equal("STATE alone", 0xEA, y.read(IF));
    }

    private static void states() {
        TileConsole x = idle();
        for (int dot = 0; dot < 114; dot++) {
            int state = dot < 20 ? 2 : dot < 63 ? 3 : 0;
            Check.equal("STATE at DOT " + dot, state, x.read(STAT) & 3);
            pass(x, 1);
        }
        Check.equal("STATE in LY 1", 2, x.read(STAT) & 3);
    }

    private static void screenOff() {
        TileConsole x = idle();
        pass(x, 300);
        Check.equal("LY before", 2, x.read(LY));
        Check.put(x, 0xFF40, 0x11);
        Check.equal("LY is 0 without LCDC's bit 7", 0, x.read(LY));
        Check.equal("STATE is 0", 0, x.read(STAT) & 3);
        pass(x, 500);
        Check.equal("LY stays 0", 0, x.read(LY));
        Check.put(x, 0xFF40, 0x91);
        Check.equal("STATE is 2 when it goes on", 2, x.read(STAT) & 3);
        pass(x, 113);
        Check.equal("DOT began at 0", 0, x.read(LY));
        pass(x, 1);
        Check.equal("LY goes on", 1, x.read(LY));
        pass(x, 114);
        Check.put(x, 0xFF40, 0x11);
        Check.put(x, 0xFF40, 0x91);
        Check.equal("off and on without a CYCLE: LY", 0, x.read(LY));
        Check.equal("no bit 0 in IF", 0xE0, x.read(IF));
    }

    private static int signalsIn(TileConsole x, int cycles) {
        Check.put(x, IF, 0);
        pass(x, cycles);
        return x.read(IF) >> 1 & 1;
    }

    private static void signalOfState() {
        TileConsole x = idle();
        Check.put(x, 0xFF45, 200);
        Check.put(x, STAT, 0x20);
        Check.equal("bit 5, STATE 2", 1, signalsIn(x, 1));
        Check.equal("bit 5, no more", 0, signalsIn(x, 112));
        Check.equal("bit 5, at LY 1", 1, signalsIn(x, 1));
        Check.put(x, STAT, 0x08);
        Check.equal("bit 3, not in STATE 2 and 3", 0, signalsIn(x, 62));
        Check.equal("bit 3, STATE 0", 1, signalsIn(x, 1));
        Check.equal("bit 3, no more", 0, signalsIn(x, 51 + 62));
        Check.equal("bit 3, in LY 2", 1, signalsIn(x, 1));
        Check.put(x, STAT, 0x10);
        Check.equal("bit 4, not before LY 144", 0, signalsIn(x, 51 + 141 * 114 - 1));
        Check.equal("LY 143", 143, x.read(LY));
        Check.equal("bit 4, LY 144", 1, signalsIn(x, 1));
        Check.equal("bit 4, no more", 0, signalsIn(x, 10 * 114));
        Check.put(x, STAT, 0x00);
        Check.equal("no bit", 0, signalsIn(x, 3 * 114));
        noSignalOfStateThree();
    }

    private static void noSignalOfStateThree() {
        TileConsole x = idle();
        Check.put(x, 0xFF45, 200);
        Check.put(x, STAT, 0x40);
        Check.equal("bit 6 is not STATE 3's", 0, signalsIn(x, 114));
    }

    private static void signalOfRow() {
        TileConsole x = idle();
        Check.put(x, STAT, 0x40);
        Check.put(x, 0xFF45, 2);
        Check.equal("LY 0, 1", 0, signalsIn(x, 2 * 114 - 1));
        Check.equal("bit 2 of STAT before", 0, x.read(STAT) & 4);
        Check.equal("LY 2", 1, signalsIn(x, 1));
        Check.equal("bit 2 of STAT", 4, x.read(STAT) & 4);
        Check.equal("not again in LY 2", 0, signalsIn(x, 113));
        Check.put(x, 0xFF45, 3);
        Check.equal("LY 3 is the new LYC right behind LY 2: the SIGNAL was already", 0, signalsIn(x, 2));
        Check.put(x, STAT, 0);
        Check.put(x, 0xFF45, 4);
        Check.equal("without bit 6", 0, signalsIn(x, 114));
    }

    // Where one cause goes over into another, the SIGNAL was already.
    private static void signalOnlyRises() {
        TileConsole x = idle();
        Check.put(x, 0xFF45, 1);
        Check.put(x, STAT, 0x48);
        Check.equal("STATE 0", 1, signalsIn(x, 63));
        Check.equal("LY is LYC right behind STATE 0", 0, signalsIn(x, 114));
        Check.put(x, STAT, 0x28);
        Check.put(x, 0xFF45, 200);
        Check.equal("STATE 0 goes on to STATE 2 of the next row", 0, signalsIn(x, 114 - 63));
        pass(x, 20);
        Check.equal("again in STATE 0", 1, signalsIn(x, 43));
    }

    private static void signalIsLookedAtBehindCycles() {
        TileConsole x = idle();
        Check.put(x, STAT, 0x40);
        Check.equal("LY is LYC, but no CYCLE", 0xE0, x.read(IF));
        Check.equal("behind one CYCLE", 1, signalsIn(x, 1));
        Check.put(x, STAT, 0);
        Check.put(x, STAT, 0x40);
        Check.equal("it was not looked at between", 0, signalsIn(x, 1));
        Check.put(x, STAT, 0);
        pass(x, 1);
        Check.put(x, STAT, 0x40);
        Check.equal("it was not, and is", 1, signalsIn(x, 1));
        Check.put(x, 0xFF40, 0x11);
        Check.equal("none without LCDC's bit 7", 0, signalsIn(x, 3));
        Check.put(x, 0xFF40, 0x91);
        Check.equal("with it again", 1, signalsIn(x, 1));
        TileConsole y = idle();
        Check.put(y, 0xFF40, 0x11);
        Check.put(y, STAT, 0x48);
        Check.equal("STATE 0 of a screen that is off is no cause", 0, signalsIn(y, 5));
    }

    private static void cyclesPassBehind() {
        TileConsole x = idle();
        pass(x, 62);
        Check.load(x, 0xF0, 0x04, 0xF0, 0x04);
        x.run(1);
        Check.equal("DIV is read before the INSTRUCTION's CYCLES", 0, x.register(Check.A));
        x.run(1);
        Check.equal("and behind those of the one before", 1, x.register(Check.A));
        TileConsole y = idle();
        Check.load(y, 0xE0, 0x04);
        y.run(1);
        pass(y, 60);
        Check.equal("a write to DIV has its CYCLES behind it", 0, y.read(0xFF04));
        pass(y, 1);
        Check.equal("3 and 61", 1, y.read(0xFF04));
    }

    private static void speed() {
        TileConsole x = idle();
        Check.refuses("no CYCLES", ArithmeticException.class, () -> x.speed());
        pass(x, 1);
        Check.equalDouble("no frame", 0.0, x.speed());
        pass(x, 144 * 114 - 1);
        Check.equalDouble("one frame", 1048576.0 / 16416, x.speed());
        pass(x, 1);
        Check.equalDouble("one frame, a cycle later", 1048576.0 / 16417, x.speed());
        TileConsole y = idle();
        Check.load(y, 0xC3, 0x00, 0xC0);
        for (int i = 0; i < 90; i++) {
            y.run(100);
        }
        int cycles = y.count(Check.CYCLES);
        Check.equal("jumps take four cycles", 36000, cycles);
        int frames = (cycles - 144 * 114) / (154 * 114) + 1;
        Check.equalDouble("more frames", 1048576.0 / cycles * frames, y.speed());
        y.insert(0);
        Check.refuses("no CYCLES since RESET", ArithmeticException.class, () -> y.speed());
        y.run(1);
        Check.equalDouble("no frame since RESET", 0.0, y.speed());
    }
}
