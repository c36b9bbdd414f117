/** What all tests share: comparing, making consoles that can run, and the exit code. */
final class Check {
    static final int WORK = 0xC000;
    static final int A = 0;
    static final int F = 1;
    static final int B = 2;
    static final int C = 3;
    static final int D = 4;
    static final int E = 5;
    static final int H = 6;
    static final int L = 7;
    static final int SP = 8;
    static final int PC = 9;
    static final int CYCLES = 0;
    static final int DONE = 1;
    static final int IME = 2;
    static final int HALTS = 3;
    static final int LOCKED = 4;
    static final int HIGH_BANK = 5;
    static final int RAM_BANK = 6;
    static final int RAM_ON = 7;
    static final int TAKEN = 8;

    private static final int MOST_SHOWN = 40;
    private static int checks = 0;
    private static int wrong = 0;

    private Check() {
    }

    static void equal(String what, long want, long got) {
        checks++;
        if (want != got) {
            report(what + " answered " + got + ", due is " + want);
        }
    }

    static void equalDouble(String what, double want, double got) {
        checks++;
        if (Double.compare(want, got) != 0) {
            report(what + " answered " + got + ", due is " + want);
        }
    }

    static void isTrue(String what, boolean holds) {
        checks++;
        if (!holds) {
            report(what + " does not hold");
        }
    }

    static void refuses(String what, Class<? extends RuntimeException> due, Runnable call) {
        checks++;
        try {
            call.run();
        } catch (RuntimeException e) {
            if (e.getClass() != due) {
                report(what + " threw " + e.getClass().getSimpleName() + ", due is " + due.getSimpleName());
            }
            return;
        }
        report(what + " threw nothing, due is " + due.getSimpleName());
    }

    static void finish(String test) {
        System.out.println(test + ": " + checks + " checks, " + wrong + " wrong");
        if (wrong != 0 || checks == 0) {
            System.exit(1);
        }
    }

    private static void report(String text) {
        wrong++;
        if (wrong <= MOST_SHOWN) {
            System.out.println(text);
        }
    }

    /** A console with an empty cartridge of the kind in it. */
    static TileConsole console(int kind) {
        TileConsole x = new TileConsole();
        x.rom(0, 0x14D, 1, 231);
        x.insert(kind);
        return x;
    }

    /** A PLAIN console whose screen is off and that waits before this program in WORK. */
    static TileConsole program(int... octets) {
        TileConsole x = console(0);
        put(x, 0xFF40, 0);
        put(x, 0xFF0F, 0);
        load(x, octets);
        return x;
    }

    static void load(TileConsole x, int... octets) {
        putAll(x, WORK, octets);
        x.set(PC, WORK);
    }

    static void put(TileConsole x, int address, int v) {
        x.write(address, 1, v);
    }

    static void putAll(TileConsole x, int address, int... octets) {
        for (int from = 0; from < octets.length; from += 8) {
            int n = Math.min(8, octets.length - from);
            long w = 0;
            for (int i = 0; i < n; i++) {
                w |= (octets[from + i] & 255L) << 8 * i;
            }
            x.write(address + from, n, w);
        }
    }

    static void fillRom(TileConsole x, int b, int at, int... octets) {
        for (int i = 0; i < octets.length; i++) {
            x.rom(b, at + i, 1, octets[i]);
        }
    }

    static void setPair(TileConsole x, int high, int v) {
        x.set(high, v >> 8);
        x.set(high + 1, v);
    }

    static int pair(TileConsole x, int high) {
        return x.register(high) << 8 | x.register(high + 1);
    }

    static int word(TileConsole x, int address) {
        return x.read(address) | x.read(address + 1) << 8;
    }

    static void registers(String what, TileConsole x, int... want) {
        String names = "AFBCDEHLSP";
        for (int k = 0; k < want.length; k++) {
            equal(what + ": register " + k + " (" + names.charAt(k) + ")", want[k], x.register(k));
        }
    }
}
