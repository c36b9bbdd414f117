/** The terms THE CARTRIDGE, ADDRESSES and controllers at their edges, a method for each sentence. */
public final class AddressEdgeTest {
    public static void main(String[] args) {
        romBanksByTenBits();
        romBankZeroEnds();
        highEnds();
        videoEnds();
        ramByEightBits();
        ramBanksAreFour();
        ramNotOn();
        nothingIn();
        workByTenBits();
        spritesEnd();
        noPlaceBetween();
        portsEnd();
        highPage();
        plainChangesNothing();
        atFirst();
        oneOn();
        oneBank();
        oneRamBank();
        oneMode();
        twoBitEight();
        twoBank();
        twoOthers();
        twoOctets();
        threeOn();
        threeLowerBits();
        threeBitEight();
        threeRamBank();
        threeElse();
        Check.finish("AddressEdgeTest");
    }

    /** Every ROM BANK b has 0x40 + b at its first and 0x80 + b at its last place. */
    private static TileConsole marked(int kind) {
        TileConsole x = Check.console(kind);
        for (int b = 0; b < 8; b++) {
            x.rom(b, 0, 1, 0x40 + b);
            x.rom(b, 1023, 1, 0x80 + b);
        }
        return x;
    }

    private static void high(String what, int due, TileConsole x) {
        Check.equal(what + ": HIGH", due, x.count(Check.HIGH_BANK));
        Check.equal(what + ": its first octet", 0x40 + due, x.read(0x4000));
        Check.equal(what + ": its last octet", 0x80 + due, x.read(0x7FFF));
        Check.equal(what + ": ROM BANK 0 is below", 0x40, x.read(0x0000));
    }

    private static void ram(String what, int bank, int on, TileConsole x) {
        Check.equal(what + ": RAM BANK", bank, x.count(Check.RAM_BANK));
        Check.equal(what + ": ON", on, x.count(Check.RAM_ON));
    }

    // "8 ROM BANKS of 1024 OCTETS"; "(the lowest ten bits of the address in it)"
    private static void romBanksByTenBits() {
        TileConsole x = marked(3);
        for (int start = 0; start < 0x4000; start += 0x400) {
            Check.equal("first of ROM BANK 0 at " + start, 0x40, x.read(start));
            Check.equal("last of ROM BANK 0 at " + (start + 0x3FF), 0x80, x.read(start + 0x3FF));
        }
        Check.put(x, 0x2000, 7);
        for (int start = 0x4000; start < 0x8000; start += 0x400) {
            Check.equal("first of ROM BANK 7 at " + start, 0x47, x.read(start));
            Check.equal("last of ROM BANK 7 at " + (start + 0x3FF), 0x87, x.read(start + 0x3FF));
        }
    }

    // "below 0x4000: ROM BANK 0"
    private static void romBankZeroEnds() {
        TileConsole x = marked(0);
        Check.equal("0x3FFF", 0x80, x.read(0x3FFF));
        Check.equal("0x4000", 0x41, x.read(0x4000));
    }

    // "below 0x8000: ROM BANK HIGH"
    private static void highEnds() {
        TileConsole x = marked(0);
        Check.put(x, 0x8000, 0x33);
        Check.equal("0x7FFF", 0x81, x.read(0x7FFF));
        Check.equal("0x8000", 0x33, x.read(0x8000));
        Check.put(x, 0x7FFF, 0x34);
        Check.equal("ROM is not written", 0x81, x.read(0x7FFF));
    }

    // "below 0xA000 VIDEO (8192)"
    private static void videoEnds() {
        TileConsole x = Check.console(0);
        for (int k = 0; k < 13; k++) {
            Check.put(x, 0x8000 + (1 << k), 0x10 + k);
        }
        Check.put(x, 0x8000, 0x0F);
        Check.put(x, 0x9FFF, 0x21);
        Check.put(x, 0xA000, 0x22);
        for (int k = 0; k < 13; k++) {
            Check.equal("VIDEO " + (1 << k), 0x10 + k, x.read(0x8000 + (1 << k)));
        }
        Check.equal("0x8000", 0x0F, x.read(0x8000));
        Check.equal("0x9FFF", 0x21, x.read(0x9FFF));
        Check.equal("0xA000 is RAM", 0x22, x.read(0xA000));
    }

    // "below 0xC000: RAM ... the lowest eight bits in its BANK"
    private static void ramByEightBits() {
        TileConsole x = Check.console(0);
        Check.put(x, 0xA000, 1);
        Check.put(x, 0xBFFF, 2);
        Check.put(x, 0xC000, 3);
        for (int start = 0xA000; start < 0xC000; start += 0x100) {
            Check.equal("first at " + start, 1, x.read(start));
            Check.equal("last at " + (start + 255), 2, x.read(start + 255));
        }
        Check.equal("0xC000 is WORK", 3, x.read(0xC000));
    }

    // "4 RAM BANKS of 256"
    private static void ramBanksAreFour() {
        TileConsole x = Check.console(3);
        Check.put(x, 0, 10);
        for (int bank = 0; bank < 4; bank++) {
            Check.put(x, 0x4000, bank);
            Check.put(x, 0xA000, 0x50 + bank);
            Check.put(x, 0xA0FF, 0x60 + bank);
        }
        for (int v = 0; v < 8; v++) {
            Check.put(x, 0x4000, v);
            Check.equal("first of RAM BANK by " + v, 0x50 + v % 4, x.read(0xA000));
            Check.equal("last of RAM BANK by " + v, 0x60 + v % 4, x.read(0xA0FF));
        }
    }

    // "if it is ON (else 0xFF, and writes are lost)"
    private static void ramNotOn() {
        for (int kind = 1; kind <= 3; kind++) {
            TileConsole x = Check.console(kind);
            Check.put(x, 0xA000, 7);
            Check.put(x, 0xBFFF, 7);
            Check.equal("not ON: 0xA000, kind " + kind, 0xFF, x.read(0xA000));
            Check.equal("not ON: 0xBFFF, kind " + kind, 0xFF, x.read(0xBFFF));
            Check.put(x, 0, 10);
            int empty = kind == 2 ? 0xF0 : 0;
            Check.equal("lost: 0xA000, kind " + kind, empty, x.read(0xA000));
            Check.equal("lost: 0xBFFF, kind " + kind, empty, x.read(0xBFFF));
        }
    }

    // "(if nothing is IN: not ON; controllers do nothing)"
    private static void nothingIn() {
        TileConsole x = new TileConsole();
        x.rom(1, 0, 1, 0x41);
        x.rom(5, 0, 1, 0x45);
        Check.put(x, 0x0000, 10);
        Check.put(x, 0x2000, 5);
        Check.put(x, 0x2100, 5);
        Check.put(x, 0xA000, 9);
        Check.equal("nothing IN: not ON", 0xFF, x.read(0xA000));
        Check.equal("nothing IN: HIGH is as at first", 0x41, x.read(0x4000));
        x.rom(0, 0x14D, 1, 231);
        x.insert(0);
        Check.equal("nothing IN: the write was lost", 0, x.read(0xA000));
        Check.equal("nothing IN: the controller did nothing", 1, x.count(Check.HIGH_BANK));
    }

    // "below 0xFE00: WORK (1024, the lowest ten bits)"
    private static void workByTenBits() {
        TileConsole x = Check.console(0);
        Check.put(x, 0xC000, 1);
        Check.put(x, 0xC200, 2);
        Check.put(x, 0xC3FF, 3);
        for (int start = 0xC000; start < 0xFC00; start += 0x400) {
            Check.equal("first of WORK at " + start, 1, x.read(start));
            Check.equal("its middle at " + start, 2, x.read(start + 0x200));
            Check.equal("last of WORK at " + start, 3, x.read(start + 0x3FF));
        }
        Check.put(x, 0xFDFF, 4);
        Check.equal("0xFDFF is WORK", 4, x.read(0xC1FF));
        Check.put(x, 0xFE00, 5);
        Check.equal("0xFE00 is not", 2, x.read(0xC200));
    }

    // "below 0xFEA0: SPRITES (160)"
    private static void spritesEnd() {
        TileConsole x = Check.console(0);
        for (int i = 0; i < 160; i++) {
            Check.put(x, 0xFE00 + i, 255 - i);
        }
        for (int i = 0; i < 160; i++) {
            Check.equal("SPRITES " + i, 255 - i, x.read(0xFE00 + i));
        }
    }

    // "below 0xFF00: 0xFF"
    private static void noPlaceBetween() {
        TileConsole x = Check.console(0);
        for (int address = 0xFEA0; address < 0xFF00; address++) {
            Check.put(x, address, address & 0x7F);
            Check.equal("at " + address, 0xFF, x.read(address));
        }
        Check.equal("SPRITES' end", 0, x.read(0xFE9F));
        Check.equal("SPRITES' beginning", 0, x.read(0xFE00));
        Check.equal("KEYS", 0xCF, x.read(0xFF00));
        Check.equal("IE", 0, x.read(0xFFFF));
        Check.equal("HIGH", 0, x.read(0xFF80) | x.read(0xFFFE));
    }

    // "below 0xFF80 and 0xFFFF: PORTS"
    private static void portsEnd() {
        TileConsole x = Check.console(0);
        Check.put(x, 0xFF7F, 5);
        Check.equal("0xFF7F is a port without a name", 0xFF, x.read(0xFF7F));
        Check.put(x, 0xFF80, 6);
        Check.equal("0xFF80 is HIGH", 6, x.read(0xFF80));
        Check.put(x, 0xFFFE, 7);
        Check.equal("0xFFFE is HIGH", 7, x.read(0xFFFE));
        Check.equal("and not IE", 0, x.read(0xFFFF));
        Check.put(x, 0xFFFF, 8);
        Check.equal("0xFFFF is IE", 8, x.read(0xFFFF));
        Check.equal("and not HIGH", 7, x.read(0xFFFE));
        Check.put(x, 0xFF00, 0x30);
        Check.equal("0xFF00 is KEYS", 0xFF, x.read(0xFF00));
        Check.equal("and not HIGH", 6, x.read(0xFF80));
    }

    // "else HIGH (127)"
    private static void highPage() {
        TileConsole x = Check.console(0);
        for (int i = 0; i < 127; i++) {
            Check.put(x, 0xFF80 + i, 200 - i);
        }
        for (int i = 0; i < 127; i++) {
            Check.equal("HIGH " + i, 200 - i, x.read(0xFF80 + i));
        }
        Check.equal("IE", 0, x.read(0xFFFF));
    }

    // "(PLAIN: RAM is ON always, nothing changes)"
    private static void plainChangesNothing() {
        TileConsole x = marked(0);
        int[] addresses = {0, 0x00FF, 0x0100, 0x1FFF, 0x2000, 0x2FFF, 0x3000, 0x3FFF, 0x4000, 0x5FFF, 0x6000, 0x7FFF};
        int[] values = {0, 1, 3, 10, 255};
        for (int v : values) {
            for (int address : addresses) {
                Check.put(x, address, v);
            }
            high("PLAIN, " + v, 1, x);
            ram("PLAIN, " + v, 0, 1, x);
        }
        Check.equal("ROM BANK 0 stays", 0x80, x.read(0x3FFF));
    }

    // "at first RAM is not ON, HIGH 1, RAM BANK 0"
    private static void atFirst() {
        for (int kind = 1; kind <= 3; kind++) {
            TileConsole x = marked(kind);
            high("at first, kind " + kind, 1, x);
            ram("at first, kind " + kind, 0, 0, x);
        }
    }

    private static void on(String what, TileConsole x, int address) {
        for (int v = 0; v < 256; v++) {
            if (v % 16 >= 9 && v % 16 <= 11 || v % 32 == 0) {
                Check.put(x, address, v);
                ram(what + " " + v + " at " + address, 0, v % 16 == 10 ? 1 : 0, x);
            }
        }
    }

    // ONE, "below 0x2000: ON if v & 15 is 10"
    private static void oneOn() {
        TileConsole x = marked(1);
        on("ONE", x, 0x0000);
        on("ONE", x, 0x1FFF);
        Check.put(x, 0x2000, 10);
        ram("ONE, 10 at 0x2000", 0, 0, x);
        high("ONE, 10 at 0x2000", 2, x);
    }

    // ONE, "below 0x4000: A is v & 31, 1 if that is 0"; "HIGH is A modulo 8"
    private static void oneBank() {
        TileConsole x = marked(1);
        int[][] asked = {{0, 1}, {1, 1}, {7, 7}, {8, 0}, {15, 7}, {16, 0}, {24, 0}, {31, 7}, {32, 1}, {33, 1}, {0x60, 1}, {255, 7}};
        for (int[] a : asked) {
            Check.put(x, 0x2000, a[0]);
            high("ONE, A by " + a[0], a[1], x);
        }
        Check.put(x, 0x3FFF, 5);
        high("ONE at 0x3FFF", 5, x);
        Check.put(x, 0x1FFF, 3);
        high("ONE, 3 at 0x1FFF", 5, x);
        Check.put(x, 0x4000, 3);
        high("ONE, 3 at 0x4000", 5, x);
    }

    // ONE, "below 0x6000: B is v & 3"
    private static void oneRamBank() {
        TileConsole x = marked(1);
        Check.put(x, 0x6000, 1);
        int[] values = {3, 4, 7, 252, 255, 0, 1, 2};
        for (int v : values) {
            Check.put(x, 0x4000, v);
            ram("ONE, B by " + v, v % 4, 0, x);
            Check.put(x, 0x5FFF, 255 - v);
            ram("ONE, B at 0x5FFF by " + (255 - v), (255 - v) % 4, 0, x);
        }
        Check.put(x, 0x4000, 2);
        Check.put(x, 0x3FFF, 3);
        ram("ONE, 3 at 0x3FFF", 2, 0, x);
    }

    // ONE, "else MODE is v & 1"; "the RAM BANK is B with MODE 1, else 0"
    private static void oneMode() {
        TileConsole x = marked(1);
        Check.put(x, 0x4000, 3);
        ram("ONE, MODE at first", 0, 0, x);
        int[] addresses = {0x6000, 0x7FFF};
        for (int address : addresses) {
            int[] values = {1, 2, 3, 254, 255, 0};
            for (int v : values) {
                Check.put(x, address, v);
                ram("ONE, MODE by " + v, v % 2 == 1 ? 3 : 0, 0, x);
            }
        }
        Check.put(x, 0x5FFF, 1);
        ram("ONE, 1 at 0x5FFF is no MODE", 0, 0, x);
        Check.put(x, 0x6000, 1);
        ram("ONE, B was kept without MODE", 1, 0, x);
        high("ONE, B and MODE are nothing to HIGH", 1, x);
    }

    // TWO, "below 0x4000: if bit 8 of the address is 0: ON if v & 15 is 10; else HIGH"
    private static void twoBitEight() {
        int[] ons = {0x0000, 0x00FF, 0x0200, 0x1EFF, 0x2000, 0x3E00, 0x3EFF};
        for (int address : ons) {
            TileConsole x = marked(2);
            on("TWO", x, address);
            Check.put(x, address, 5);
            high("TWO, 5 at " + address, 1, x);
        }
        TileConsole x = marked(2);
        int[] banks = {0x0100, 0x01FF, 0x0300, 0x1FFF, 0x2100, 0x3F00, 0x3FFF};
        for (int address : banks) {
            Check.put(x, address, 10);
            high("TWO, 10 at " + address, 2, x);
            ram("TWO, 10 at " + address, 0, 0, x);
            Check.put(x, address, 4);
            high("TWO, 4 at " + address, 4, x);
        }
    }

    // TWO, "HIGH is v & 15, 1 if that is 0, modulo 8"
    private static void twoBank() {
        TileConsole x = marked(2);
        int[][] asked = {{0, 1}, {1, 1}, {7, 7}, {8, 0}, {9, 1}, {15, 7}, {16, 1}, {17, 1}, {0xF0, 1}, {0xF8, 0}, {255, 7}};
        for (int[] a : asked) {
            Check.put(x, 0x2100, a[0]);
            high("TWO, HIGH by " + a[0], a[1], x);
        }
    }

    // TWO, "others nothing; the RAM BANK is 0"
    private static void twoOthers() {
        TileConsole x = marked(2);
        Check.put(x, 0x0000, 10);
        Check.put(x, 0x0100, 6);
        int[] addresses = {0x4000, 0x40FF, 0x4100, 0x5FFF, 0x6000, 0x7FFF};
        for (int address : addresses) {
            Check.put(x, address, 3);
            high("TWO, 3 at " + address, 6, x);
            ram("TWO, 3 at " + address, 0, 1, x);
        }
    }

    // TWO, "of its OCTETS only the lower four bits are kept, it reads the upper ones as 1"
    private static void twoOctets() {
        TileConsole x = marked(2);
        Check.put(x, 0x0000, 10);
        for (int v = 0; v < 256; v += 5) {
            Check.put(x, 0xA0FF, v);
            Check.equal("TWO, " + v, 0xF0 + v % 16, x.read(0xBFFF));
        }
        Check.put(x, 0xA000, 0xAB);
        x.insert(0);
        Check.equal("only these were kept", 0x0B, x.read(0xA000));
    }

    // THREE, "Below 0x2000: ON as ONE"
    private static void threeOn() {
        TileConsole x = marked(3);
        on("THREE", x, 0x0000);
        on("THREE", x, 0x1FFF);
        Check.put(x, 0x2000, 10);
        ram("THREE, 10 at 0x2000", 0, 0, x);
        high("THREE, 10 at 0x2000", 2, x);
    }

    // THREE, "below 0x3000: the lower eight bits of N are v"; "HIGH is N modulo 8 (also 0)"
    private static void threeLowerBits() {
        TileConsole x = marked(3);
        int[] values = {0, 1, 7, 8, 9, 15, 16, 127, 128, 254, 255};
        for (int v : values) {
            Check.put(x, 0x2000, v);
            high("THREE, N by " + v, v % 8, x);
            Check.put(x, 0x2FFF, 255 - v);
            high("THREE, N at 0x2FFF by " + (255 - v), (255 - v) % 8, x);
        }
        Check.put(x, 0x2000, 6);
        Check.put(x, 0x1FFF, 3);
        high("THREE, 3 at 0x1FFF", 6, x);
    }

    // THREE, "below 0x4000: its bit 8 is v & 1": N modulo 8 does not show it, and the lower bits stay.
    private static void threeBitEight() {
        TileConsole x = marked(3);
        Check.put(x, 0x2000, 6);
        int[] values = {1, 0, 255, 254, 3};
        for (int v : values) {
            Check.put(x, 0x3000, v);
            high("THREE, bit 8 at 0x3000 by " + v, 6, x);
            Check.put(x, 0x3FFF, v);
            high("THREE, bit 8 at 0x3FFF by " + v, 6, x);
        }
        Check.put(x, 0x2000, 0);
        high("THREE, N 256", 0, x);
        ram("THREE, bit 8", 0, 0, x);
    }

    // THREE, "below 0x6000: the RAM BANK is v & 3"
    private static void threeRamBank() {
        TileConsole x = marked(3);
        int[] values = {3, 4, 7, 252, 255, 0, 1, 2};
        for (int v : values) {
            Check.put(x, 0x4000, v);
            ram("THREE, RAM BANK by " + v, v % 4, 0, x);
            Check.put(x, 0x5FFF, 255 - v);
            ram("THREE, RAM BANK at 0x5FFF by " + (255 - v), (255 - v) % 4, 0, x);
        }
        Check.put(x, 0x4000, 2);
        Check.put(x, 0x3FFF, 1);
        ram("THREE, 1 at 0x3FFF", 2, 0, x);
        high("THREE, the RAM BANK is nothing to HIGH", 1, x);
    }

    // THREE, "else nothing"
    private static void threeElse() {
        TileConsole x = marked(3);
        Check.put(x, 0x0000, 10);
        Check.put(x, 0x2000, 5);
        Check.put(x, 0x4000, 2);
        int[] values = {0, 1, 3, 255};
        for (int v : values) {
            Check.put(x, 0x6000, v);
            Check.put(x, 0x7FFF, v);
            high("THREE, else " + v, 5, x);
            ram("THREE, else " + v, 2, 1, x);
        }
    }
}
