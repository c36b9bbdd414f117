/** The CYCLES and the length of every instruction, and which ones LOCK. */
public final class TimeTest {
    private static final int X = -1;

    // Conditions do not hold here; X locks. 0xCB is looked at by itself.
    private static final int[] CYCLES = {
        1, 3, 2, 2, 1, 1, 2, 1, 5, 2, 2, 2, 1, 1, 2, 1,
        2, 3, 2, 2, 1, 1, 2, 1, 3, 2, 2, 2, 1, 1, 2, 1,
        2, 3, 2, 2, 1, 1, 2, 1, 2, 2, 2, 2, 1, 1, 2, 1,
        2, 3, 2, 2, 3, 3, 3, 1, 2, 2, 2, 2, 1, 1, 2, 1,
        1, 1, 1, 1, 1, 1, 2, 1, 1, 1, 1, 1, 1, 1, 2, 1,
        1, 1, 1, 1, 1, 1, 2, 1, 1, 1, 1, 1, 1, 1, 2, 1,
        1, 1, 1, 1, 1, 1, 2, 1, 1, 1, 1, 1, 1, 1, 2, 1,
        2, 2, 2, 2, 2, 2, 1, 2, 1, 1, 1, 1, 1, 1, 2, 1,
        1, 1, 1, 1, 1, 1, 2, 1, 1, 1, 1, 1, 1, 1, 2, 1,
        1, 1, 1, 1, 1, 1, 2, 1, 1, 1, 1, 1, 1, 1, 2, 1,
        1, 1, 1, 1, 1, 1, 2, 1, 1, 1, 1, 1, 1, 1, 2, 1,
        1, 1, 1, 1, 1, 1, 2, 1, 1, 1, 1, 1, 1, 1, 2, 1,
        2, 3, 3, 4, 3, 4, 2, 4, 2, 4, 3, 2, 3, 6, 2, 4,
        2, 3, 3, X, 3, 4, 2, 4, 2, 4, 3, X, 3, X, 2, 4,
        3, 3, 2, X, X, 4, 2, 4, 4, 1, 4, X, X, X, 2, 4,
        3, 3, 2, 1, X, 4, 2, 4, 3, 2, 4, 1, X, X, 2, 4,
    };

    public static void main(String[] args) {
        for (int i = 0; i < 256; i++) {
            oneInstruction(i);
        }
        conditions();
        prefixed();
        Check.finish("TimeTest");
    }

    // HL is in WORK so that nothing else is touched.
    private static TileConsole with(int f, int... octets) {
        TileConsole x = Check.program(octets);
        x.set(Check.F, f);
        x.set(Check.SP, 0xC300);
        Check.setPair(x, Check.B, 0xC200);
        Check.setPair(x, Check.D, 0xC210);
        Check.setPair(x, Check.H, 0xC220);
        return x;
    }

    private static void oneInstruction(int i) {
        // F so that no condition with this number holds.
        int f = (i >> 3 & 1) == 0 ? 0xF0 : 0;
        TileConsole x = with(f, i, 0x20, 0xC1);
        String what = "instruction 0x" + Integer.toHexString(i);
        if (CYCLES[i] == X) {
            Check.refuses(what, UnsupportedOperationException.class, () -> x.run(1));
            Check.equal(what + ": LOCKED", 1, x.count(Check.LOCKED));
            Check.equal(what + ": no CYCLES", 0, x.count(Check.CYCLES));
            Check.equal(what + ": PC", Check.WORK + 1, x.register(Check.PC));
            return;
        }
        Check.equal(what, CYCLES[i], x.run(1));
        Check.equal(what + ": CYCLES", CYCLES[i], x.count(Check.CYCLES));
        Check.equal(what + ": done", 1, x.count(Check.DONE));
        Check.equal(what + ": LOCKED", 0, x.count(Check.LOCKED));
        if (!goesElsewhere(i)) {
            Check.equal(what + ": PC", Check.WORK + lengthOf(i), x.register(Check.PC));
        }
    }

    private static boolean goesElsewhere(int i) {
        return i == 0x18 || i == 0xC3 || i == 0xC9 || i == 0xCD || i == 0xD9 || i == 0xE9 || (i & 0xC7) == 0xC7;
    }

    private static int lengthOf(int i) {
        boolean word = (i & 0xCF) == 0x01 || i == 0x08 || (i & 0xE7) == 0xC2 || (i & 0xE7) == 0xC4 || i == 0xEA || i == 0xFA;
        boolean octet = (i & 0xC7) == 0x06 || (i & 0xC7) == 0xC6 || (i & 0xE7) == 0x20 || i == 0x10 || i == 0xCB
            || i == 0xE0 || i == 0xE8 || i == 0xF0 || i == 0xF8;
        return word ? 3 : octet ? 2 : 1;
    }

    private static void conditions() {
        int[] masks = {128, 128, 16, 16};
        for (int cc = 0; cc < 4; cc++) {
            for (int f = 0; f < 256; f += 16) {
                boolean goes = ((f & masks[cc]) != 0) == (cc % 2 == 1);
                String what = "cc " + cc + " with F " + f;
                TileConsole x = with(f, 0x20 + 8 * cc, 0xFE);
                Check.equal("JR, " + what, goes ? 3 : 2, x.run(1));
                Check.equal("JR goes, " + what, goes ? 0xC000 : 0xC002, x.register(Check.PC));
                x = with(f, 0xC2 + 8 * cc, 0x34, 0xC1);
                Check.equal("JP, " + what, goes ? 4 : 3, x.run(1));
                Check.equal("JP goes, " + what, goes ? 0xC134 : 0xC003, x.register(Check.PC));
                x = with(f, 0xC4 + 8 * cc, 0x34, 0xC1);
                Check.equal("CALL, " + what, goes ? 6 : 3, x.run(1));
                Check.equal("CALL goes, " + what, goes ? 0xC134 : 0xC003, x.register(Check.PC));
                Check.equal("CALL's SP, " + what, goes ? 0xC2FE : 0xC300, x.register(Check.SP));
                x = with(f, 0xC0 + 8 * cc);
                Check.putAll(x, 0xC300, 0x78, 0x56);
                Check.equal("RET, " + what, goes ? 5 : 2, x.run(1));
                Check.equal("RET goes, " + what, goes ? 0x5678 : 0xC001, x.register(Check.PC));
                Check.equal("RET's SP, " + what, goes ? 0xC302 : 0xC300, x.register(Check.SP));
                Check.equal("F stays, " + what, f, x.register(Check.F));
            }
        }
    }

    private static void prefixed() {
        for (int i = 0; i < 256; i++) {
            TileConsole x = with(0, 0xCB, i);
            int due = (i & 7) != 6 ? 2 : i >> 6 == 1 ? 3 : 4;
            Check.equal("CB 0x" + Integer.toHexString(i), due, x.run(1));
            Check.equal("CB 0x" + Integer.toHexString(i) + ": PC", Check.WORK + 2, x.register(Check.PC));
        }
    }
}
