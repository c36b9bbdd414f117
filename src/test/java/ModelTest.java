import java.util.Random;
import java.util.function.Supplier;

/** All promises at once: random runs of up to 512 calls, each answer held against the Model's. */
public final class ModelTest {
    private static final int RUNS = 4000;
    private static final int CALLS = 512;
    private static final int[] EDGES = {
        0x0000, 0x00FF, 0x0100, 0x1FFF, 0x2000, 0x2FFF, 0x3000, 0x3FFF, 0x4000, 0x5FFF, 0x6000, 0x7FFF, 0x8000, 0x9FFF,
        0xA000, 0xA0FF, 0xBFFF, 0xC000, 0xC3FF, 0xFDFF, 0xFE00, 0xFE9F, 0xFEA0, 0xFEFF, 0xFF00, 0xFF7F, 0xFF80, 0xFFFE, 0xFFFF,
    };
    private static final int[] PORTS = {
        0x00, 0x04, 0x05, 0x06, 0x07, 0x0F, 0x0F, 0x0F, 0x40, 0x41, 0x41, 0x42, 0x43, 0x44, 0x45, 0x46, 0x47, 0x48, 0x49, 0x4A, 0x4B,
        0xFF, 0xFF,
    };
    private static final int[] LOCKING = {0xD3, 0xDB, 0xDD, 0xE3, 0xE4, 0xEB, 0xEC, 0xED, 0xF4, 0xFC, 0xFD};

    private final Random random;
    private final TileConsole seen = new TileConsole();
    private final Model due = new Model();
    private final int number;
    private int calls;

    private ModelTest(int number) {
        this.number = number;
        random = new Random(20261116L * 1000 + number);
    }

    public static void main(String[] args) {
        for (int number = 0; number < RUNS; number++) {
            new ModelTest(number).go();
        }
        Check.finish("ModelTest");
    }

    private void go() {
        if (random.nextInt(20) > 0) {
            fillBanks();
            int kind = random.nextInt(4);
            same("insert(" + kind + ")", () -> seen.insert(kind), () -> due.insert(kind));
        }
        if (random.nextInt(3) > 0) {
            int on = random.nextInt(32);
            write(0xFFFF, 1, on);
        }
        if (random.nextInt(6) == 0) {
            passFrame();
        }
        while (calls < CALLS) {
            oneCall();
        }
    }

    /** So long that LY comes to 144 and often to 0 again: STAT, LYC, TIMA at random, EI in half of the runs. */
    private void passFrame() {
        write(0xFF41, 1, below(256));
        write(0xFF45, 1, below(160));
        write(0xFF05, 3, random.nextLong());
        write(0xC3F0, 4, 0xFE1800FBL);
        set(8, 0xC380);
        set(9, 0xC3F0 + below(2));
        for (int k = 0; k < 56 + below(8); k++) {
            same("run(100)", () -> seen.run(100), () -> due.run(100));
            look();
        }
    }

    private void same(String call, Supplier<Object> ofSeen, Supplier<Object> ofDue) {
        calls++;
        if (calls <= CALLS) {
            String got = answer(ofSeen);
            String want = answer(ofDue);
            Check.isTrue("run " + number + ", call " + calls + ", " + call + ": " + got + ", due is " + want, got.equals(want));
        }
    }

    private static String answer(Supplier<Object> call) {
        try {
            return call.get().toString();
        } catch (RuntimeException e) {
            return e.getClass().getSimpleName();
        }
    }

    private int below(int n) {
        return random.nextInt(n);
    }

    /** Mostly 0 to n - 1, now and then just or far outside. */
    private int about(int n) {
        int luck = below(60);
        return luck == 0 ? -1 : luck == 1 ? n : luck == 2 ? random.nextInt() : luck < 8 ? (luck % 2) * (n - 1) : below(n);
    }

    private void rom(int b, int at, int n, long w) {
        same("rom(" + b + ", " + at + ", " + n + ", " + w + ")", () -> seen.rom(b, at, n, w), () -> due.rom(b, at, n, w));
    }

    private void write(int address, int n, long w) {
        same("write(" + address + ", " + n + ", " + w + ")", () -> seen.write(address, n, w), () -> due.write(address, n, w));
    }

    private void set(int k, int v) {
        same("set(" + k + ", " + v + ")", () -> seen.set(k, v), () -> due.set(k, v));
    }

    private void fillBanks() {
        rom(0, 0x14D, 1, 231);
        for (int place = 0; place < 0x80; place += 8) {
            rom(0, place, 8, code());
        }
        rom(0, 0x100, 8, code());
        for (int bank = 1; bank < 8; bank++) {
            rom(bank, 8 * below(128), 8, code());
        }
    }

    private long code() {
        long w = 0;
        for (int i = 0; i < 8; i++) {
            w = w << 8 | instruction();
        }
        return w;
    }

    /** Octets as instructions, seldom one that LOCKs, often one that has to do with interrupts. */
    private int instruction() {
        int[] wanted = {0xFB, 0xFB, 0xF3, 0x76, 0xD9, 0xE0, 0xE2, 0xF0, 0x10, 0x22, 0x27};
        int i = below(12) == 0 ? wanted[below(wanted.length)] : below(256);
        for (int locking : LOCKING) {
            i = i == locking && below(20) > 0 ? 0 : i;
        }
        return i;
    }

    private int address() {
        int luck = below(10);
        if (luck < 3) {
            return 0xFF00 + PORTS[below(PORTS.length)];
        }
        return luck < 5 ? EDGES[below(EDGES.length)] : luck < 6 ? about(0x10000) : luck < 8 ? 0xC000 + below(1024) : below(0x10000);
    }

    private void oneCall() {
        switch (below(16)) {
            case 0 -> rom(about(8), about(1024), about(9), random.nextLong());
            case 1 -> insertOrProgram();
            case 2, 3, 4 -> {
                int n = below(3) > 0 ? 1 + below(8) : about(101);
                same("run(" + n + ")", () -> seen.run(n), () -> due.run(n));
            }
            case 5 -> set(about(10), below(4) == 0 ? random.nextInt() : below(0x10000));
            case 6 -> {
                int k = about(10);
                same("register(" + k + ")", () -> seen.register(k), () -> due.register(k));
            }
            case 7, 8 -> {
                int at = address();
                same("read(" + at + ")", () -> seen.read(at), () -> due.read(at));
            }
            case 9, 10 -> write(address(), below(3) > 0 ? 1 : about(9), below(2) == 0 ? random.nextLong() : below(256));
            case 11 -> {
                int mask = about(256);
                same("keys(" + mask + ")", () -> seen.keys(mask), () -> due.keys(mask));
            }
            case 12 -> picture();
            case 13 -> {
                int what = about(9);
                same("count(" + what + ")", () -> seen.count(what), () -> due.count(what));
            }
            case 14 -> same("speed()", () -> seen.speed(), () -> due.speed());
            default -> look();
        }
    }

    private void insertOrProgram() {
        if (below(12) == 0) {
            if (below(4) > 0) {
                rom(0, 0x14D, 1, 231);
            }
            int kind = about(4);
            same("insert(" + kind + ")", () -> seen.insert(kind), () -> due.insert(kind));
            return;
        }
        int at = 0xC000 + below(0x100);
        for (int k = 0; k < 32; k += 8) {
            write(at + k, 8, code());
        }
        set(9, at);
        set(8, 0xC380);
    }

    private void picture() {
        for (int k = 0; k < 4; k++) {
            write(0x8000 + 8 * below(1024), 8, random.nextLong());
        }
        int y = below(144);
        for (int k = 0; k < 4; k++) {
            long w = random.nextLong() & 0xFFFFFF00FFFFFF00L | y + 16 - below(10) & 255L;
            write(0xFE00 + 8 * below(20), 8, w | (y + 16L - below(18) & 255) << 32);
        }
        int at = below(10) == 0 ? about(144) : y;
        same("row(" + at + ")", () -> seen.row(at), () -> due.row(at));
        for (int k = 0; k < 3; k++) {
            int x = about(160);
            same("pixel(" + x + ")", () -> seen.pixel(x), () -> due.pixel(x));
        }
    }

    private void look() {
        int[] places = {0xFF04, 0xFF05, 0xFF0F, 0xFF41, 0xFF44};
        for (int place : places) {
            same("read(" + place + ")", () -> seen.read(place), () -> due.read(place));
        }
        int k = below(10);
        same("register(" + k + ")", () -> seen.register(k), () -> due.register(k));
        int what = below(9);
        same("count(" + what + ")", () -> seen.count(what), () -> due.count(what));
    }
}
