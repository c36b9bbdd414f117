import java.util.function.Consumer;
import java.util.function.Supplier;

/** What the face shows of a console's state, for tests that a refused call leaves all as it was. */
final class State {
    private static final int[] PLACES = {
        0x0000, 0x0100, 0x014D, 0x03FF, 0x4000, 0x43FF, 0x7FFF, 0x8000, 0x9800, 0x9FFF, 0xA000, 0xA0FF,
        0xC000, 0xC001, 0xC3F8, 0xC3FF, 0xFE00, 0xFE9F, 0xFF00, 0xFF04, 0xFF05, 0xFF06, 0xFF07, 0xFF0F,
        0xFF40, 0xFF41, 0xFF42, 0xFF43, 0xFF44, 0xFF45, 0xFF46, 0xFF47, 0xFF48, 0xFF49, 0xFF4A, 0xFF4B,
        0xFF80, 0xFFF9, 0xFFFE, 0xFFFF,
    };

    private State() {
    }

    /** A console of the kind THREE in the midst of its work, with IME to be 1 behind the next INSTRUCTION. */
    static TileConsole busy() {
        TileConsole x = Check.console(3);
        Check.fillRom(x, 4, 0, 0x11, 0x22);
        Check.put(x, 0x0000, 10);
        Check.put(x, 0x2000, 4);
        Check.put(x, 0x4000, 2);
        Check.put(x, 0xA000, 0x5B);
        Check.put(x, 0x8000, 0xF3);
        Check.put(x, 0xFE9F, 0x44);
        Check.put(x, 0xFF80, 0x66);
        Check.put(x, 0xFF07, 5);
        Check.put(x, 0xFF47, 0xE5);
        Check.put(x, 0xFF41, 0x48);
        x.keys(0x81);
        x.row(3);
        for (int k = 0; k < 9; k++) {
            x.set(k, 0xC310 + 0x10 * k);
        }
        // B counts from 45 to 0, then EI, the last that is done; then A + 1 over and over.
        Check.load(x, 0x06, 0x2D, 0x05, 0x20, 0xFD, 0xFB, 0x3C, 0x18, 0xFD);
        x.run(92);
        return x;
    }

    /** The call is refused as due, and nothing that can be seen then or later is another than without it. */
    static void refusal(String what, Class<? extends RuntimeException> due, Supplier<TileConsole> maker,
            Consumer<TileConsole> call) {
        TileConsole refused = maker.get();
        TileConsole twin = maker.get();
        Check.refuses(what, due, () -> call.accept(refused));
        same(what, twin, refused);
        go(twin);
        go(refused);
        same(what + ", later", twin, refused);
    }

    private static void go(TileConsole x) {
        try {
            x.run(100);
        } catch (IllegalStateException | UnsupportedOperationException e) {
            return;
        }
    }

    private static void same(String what, TileConsole due, TileConsole seen) {
        for (int k = 0; k <= 9; k++) {
            Check.equal(what + ": register " + k, due.register(k), seen.register(k));
        }
        for (int k = 0; k <= 8; k++) {
            Check.equal(what + ": count " + k, due.count(k), seen.count(k));
        }
        for (int place : PLACES) {
            Check.equal(what + ": at " + place, due.read(place), seen.read(place));
        }
        for (int at = 0; at < 160; at += 53) {
            Check.equal(what + ": pixel " + at, due.pixel(at), seen.pixel(at));
        }
    }
}
