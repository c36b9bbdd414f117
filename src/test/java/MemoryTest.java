/** Promises 7, 8 and 9 (read, write, keys), the addresses and the ports. */
public final class MemoryTest {
    public static void main(String[] args) {
        writePutsLowestFirst();
        wrongInputs();
        everyAddress();
        folds();
        ports();
        unnamedPorts();
        interruptPorts();
        transfer();
        transferFromPorts();
        keys();
        keyPort();
        Check.finish("MemoryTest");
    }

    private static void writePutsLowestFirst() {
        TileConsole x = Check.console(0);
        for (int n = 1; n <= 8; n++) {
            x.write(0xC100, 8, 0);
            Check.equal("write answers n", n, x.write(0xC100, n, 0xF8F7F6F5F4F3F2F1L));
            for (int i = 0; i < 8; i++) {
                Check.equal("octet " + i + " of " + n, i < n ? 0xF1 + i : 0, x.read(0xC100 + i));
            }
        }
        Check.equal("across the border to SPRITES", 8, x.write(0xFDFC, 8, 0x0807060504030201L));
        Check.equal("WORK's end", 4, x.read(0xC1FF));
        Check.equal("SPRITES' beginning", 5, x.read(0xFE00));
        Check.equal("no cycles passed", 0, x.count(Check.CYCLES));
    }

    private static void wrongInputs() {
        TileConsole x = Check.console(0);
        Class<IllegalArgumentException> illegal = IllegalArgumentException.class;
        int[] addresses = {-1, 0x10000, Integer.MAX_VALUE, Integer.MIN_VALUE};
        for (int address : addresses) {
            Check.refuses("read " + address, illegal, () -> x.read(address));
            Check.refuses("write " + address, illegal, () -> x.write(address, 1, 0));
        }
        int[] ns = {0, 9, -1, Integer.MAX_VALUE, Integer.MIN_VALUE};
        for (int n : ns) {
            Check.refuses("write of " + n, illegal, () -> x.write(0xC000, n, -1));
        }
        Check.refuses("one is beyond", illegal, () -> x.write(0xFFFF, 2, -1));
        Check.refuses("the last of eight is beyond", illegal, () -> x.write(0xFFF9, 8, -1));
        Check.equal("nothing was written to IE", 0, x.read(0xFFFF));
        Check.equal("nothing was written to HIGH", 0, x.read(0xFFF9));
        Check.equal("nothing was written to WORK", 0, x.read(0xC000));
        Check.equal("up to the last", 8, x.write(0xFFF8, 8, -1));
        Check.equal("IE", 255, x.read(0xFFFF));
        Check.equal("at 0", 1, x.write(0, 1, 0));
        int[] masks = {-1, 256, Integer.MAX_VALUE, Integer.MIN_VALUE};
        for (int mask : masks) {
            Check.refuses("keys " + mask, illegal, () -> x.keys(mask));
        }
        Check.equal("no key went down", 0, x.keys(0));
    }

    // Writes v to each address by itself and looks that it alone is there, on the edges of all ranges.
    private static void everyAddress() {
        int[] kept = {0x8000, 0x9800, 0x9FFF, 0xA000, 0xA0FF, 0xC000, 0xC3FF, 0xFE00, 0xFE9F, 0xFF80, 0xFFFE, 0xFFFF};
        TileConsole x = Check.console(0);
        for (int i = 0; i < kept.length; i++) {
            Check.put(x, kept[i], 0x81 + i);
        }
        for (int i = 0; i < kept.length; i++) {
            Check.equal("at " + kept[i], 0x81 + i, x.read(kept[i]));
        }
        int[] lost = {0xFEA0, 0xFEB7, 0xFEFF};
        for (int address : lost) {
            Check.put(x, address, 5);
            Check.equal("at " + address, 255, x.read(address));
        }
        Check.put(x, 0x0007, 5);
        Check.put(x, 0x7FFF, 5);
        Check.equal("ROM BANK 0 is not written", 0, x.read(7));
        Check.equal("ROM BANK HIGH is not written", 0, x.read(0x7FFF));
    }

    private static void folds() {
        TileConsole x = Check.console(0);
        Check.put(x, 0xC005, 1);
        Check.put(x, 0xFDFF, 2);
        Check.put(x, 0xBF33, 3);
        Check.equal("WORK, ten bits", 1, x.read(0xE405));
        Check.equal("WORK, ten bits, below 0xFE00", 2, x.read(0xC1FF));
        Check.equal("RAM, eight bits", 3, x.read(0xA033));
        Check.put(x, 0x8000, 4);
        Check.equal("VIDEO has 8192", 0, x.read(0x9000));
        Check.equal("VIDEO has 8192, too", 0, x.read(0x8400));
    }

    private static void ports() {
        TileConsole x = Check.console(0);
        int[] whole = {0xFF05, 0xFF06, 0xFF40, 0xFF42, 0xFF43, 0xFF45, 0xFF46, 0xFF47, 0xFF48, 0xFF49, 0xFF4A, 0xFF4B, 0xFFFF};
        for (int i = 0; i < whole.length; i++) {
            Check.put(x, whole[i], 0xA0 + i);
        }
        for (int i = 0; i < whole.length; i++) {
            Check.equal("port " + whole[i], 0xA0 + i, x.read(whole[i]));
        }
        for (int v = 0; v < 8; v++) {
            Check.put(x, 0xFF07, v);
            Check.equal("TAC " + v, 0xF8 + v, x.read(0xFF07));
        }
        Check.put(x, 0xFF07, 0xF8);
        Check.equal("TAC's upper bits", 0xF8, x.read(0xFF07));
        Check.put(x, 0xFF44, 77);
        Check.equal("LY is only read", 0, x.read(0xFF44));
        Check.put(x, 0xFF45, 0);
        Check.put(x, 0xFF41, 0xFF);
        Check.equal("STAT, LY is LYC, STATE 2", 0xFE, x.read(0xFF41));
        Check.put(x, 0xFF45, 1);
        Check.equal("STAT, LY is not LYC", 0xFA, x.read(0xFF41));
        Check.put(x, 0xFF41, 0x28);
        Check.equal("STAT, bits 6 to 3 as written", 0xAA, x.read(0xFF41));
        Check.put(x, 0xFF40, 0);
        Check.equal("STAT without LCDC's bit 7: STATE 0", 0xA8, x.read(0xFF41));
        Check.put(x, 0xFF45, 0);
        Check.equal("STAT without LCDC's bit 7: LY 0 is LYC", 0xAC, x.read(0xFF41));
    }

    private static void unnamedPorts() {
        TileConsole x = Check.console(0);
        for (int port = 0xFF00; port < 0xFF80; port++) {
            int low = port & 255;
            boolean named = low == 0 || low >= 4 && low <= 7 || low == 0x0F || low >= 0x40 && low <= 0x4B;
            if (!named) {
                Check.put(x, port, 0x3C);
                Check.equal("port without a name " + port, 255, x.read(port));
            }
        }
        Check.equal("LCDC unchanged", 0x91, x.read(0xFF40));
        Check.equal("IF unchanged", 0xE1, x.read(0xFF0F));
    }

    private static void interruptPorts() {
        TileConsole x = Check.console(0);
        Check.put(x, 0xFF0F, 0xFF);
        Check.equal("IF, all", 0xFF, x.read(0xFF0F));
        Check.put(x, 0xFF0F, 0x08);
        Check.equal("IF, bit 3", 0xE8, x.read(0xFF0F));
        Check.put(x, 0xFF0F, 0xE0);
        Check.equal("IF, none", 0xE0, x.read(0xFF0F));
        Check.put(x, 0xFFFF, 0xE7);
        Check.equal("IE has eight bits", 0xE7, x.read(0xFFFF));
    }

    private static void transfer() {
        TileConsole x = Check.console(0);
        for (int i = 0; i < 168; i += 8) {
            long w = 0;
            for (int k = 0; k < 8; k++) {
                w |= (long) (i + k + 3 & 255) << 8 * k;
            }
            x.write(0xC100 + i, 8, w);
        }
        Check.put(x, 0xFF46, 0xC1);
        Check.equal("0xFF46 reads as written", 0xC1, x.read(0xFF46));
        for (int i = 0; i < 160; i++) {
            Check.equal("SPRITES " + i, i + 3, x.read(0xFE00 + i));
        }
        Check.put(x, 0xFF46, 0xFE);
        Check.equal("SPRITES onto themselves", 3 + 9, x.read(0xFE09));
        Check.put(x, 0xFF46, 0xA5);
        Check.equal("from RAM", 0, x.read(0xFE09));
        TileConsole y = Check.console(1);
        y.rom(1, 0x104, 1, 0x6B);
        Check.put(y, 0xFF46, 0x41);
        Check.equal("from ROM BANK HIGH", 0x6B, y.read(0xFE04));
        Check.put(y, 0xFF46, 0xA0);
        Check.equal("from RAM that is not ON", 255, y.read(0xFE9F));
    }

    private static void transferFromPorts() {
        TileConsole x = Check.console(0);
        Check.put(x, 0xFF85, 0x2C);
        Check.put(x, 0xFF43, 0x19);
        Check.put(x, 0xFF46, 0xFF);
        Check.equal("KEYS", 0xCF, x.read(0xFE00));
        Check.equal("no port", 0xFF, x.read(0xFE01));
        Check.equal("LCDC", 0x91, x.read(0xFE40));
        Check.equal("SCX", 0x19, x.read(0xFE43));
        Check.equal("0xFF46 itself", 0xFF, x.read(0xFE46));
        Check.equal("HIGH", 0x2C, x.read(0xFE85));
    }

    private static void keys() {
        TileConsole x = new TileConsole();
        Check.put(x, 0xFF0F, 0);
        Check.equal("none was down", 0, x.keys(0));
        Check.equal("no key, no IF", 0xE0, x.read(0xFF0F));
        for (int k = 0; k < 8; k++) {
            Check.put(x, 0xFF0F, 0);
            Check.equal("what was down", k == 0 ? 0 : 1 << k - 1, x.keys(1 << k));
            Check.equal("key " + k + " is new", 0xF0, x.read(0xFF0F));
        }
        Check.put(x, 0xFF0F, 0);
        Check.equal("the same again", 128, x.keys(128));
        Check.equal("nothing new", 0xE0, x.read(0xFF0F));
        x.keys(255);
        Check.put(x, 0xFF0F, 3);
        Check.equal("some go up", 255, x.keys(0x0F));
        Check.equal("IF as it was", 0xE3, x.read(0xFF0F));
        Check.equal("one up, one down", 0x0F, x.keys(0x1E));
        Check.equal("one is new", 0xF3, x.read(0xFF0F));
        Check.put(x, 0xFF00, 0x30);
        Check.put(x, 0xFF0F, 0);
        x.keys(0x3E);
        Check.equal("IF, whatever KEYS chooses", 0xF0, x.read(0xFF0F));
    }

    private static void keyPort() {
        TileConsole x = new TileConsole();
        int[] masks = {0, 1, 2, 4, 8, 16, 32, 64, 128, 0x5A, 0xA5, 0xFF, 0x31, 0x13};
        for (int mask : masks) {
            x.keys(mask);
            for (int v = 0; v < 256; v += 0x10) {
                int shown = 0x0F;
                for (int k = 0; k < 8; k++) {
                    boolean chosen = k < 4 ? (v & 0x10) == 0 : (v & 0x20) == 0;
                    if (chosen && (mask >> k & 1) == 1) {
                        shown &= ~(1 << k % 4);
                    }
                }
                Check.put(x, 0xFF00, v | 0x05);
                Check.equal("keys " + mask + ", chosen " + v, 0xC0 | v & 0x30 | shown, x.read(0xFF00));
            }
        }
    }
}
