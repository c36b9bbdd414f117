import java.util.Random;

/** Promises 10 and 11 (row, pixel): background, window and sprites. */
public final class RowTest {
    private static final int LCDC = 0xFF40;
    private static final int WIDTH = 160;

    public static void main(String[] args) {
        wrongInputs();
        lastRowStays();
        background();
        tilePlaces();
        window();
        oneSprite();
        tallSprites();
        tenSprites();
        spriteOrder();
        spriteBehind();
        spriteEdges();
        againstTheDocument();
        Check.finish("RowTest");
    }

    private static void wrongInputs() {
        TileConsole x = Check.console(0);
        int[] ys = {-1, 144, 255, Integer.MAX_VALUE, Integer.MIN_VALUE};
        for (int y : ys) {
            Check.refuses("row(" + y + ")", IllegalArgumentException.class, () -> x.row(y));
        }
        int[] xs = {-1, 160, Integer.MAX_VALUE, Integer.MIN_VALUE};
        for (int at : xs) {
            Check.refuses("pixel(" + at + ")", IndexOutOfBoundsException.class, () -> x.pixel(at));
        }
        Check.equal("row(143)", 0, x.row(143));
        Check.equal("pixel(159)", 0, x.pixel(159));
        Check.equal("a row works without a cartridge", 0, new TileConsole().row(0));
    }

    private static void lastRowStays() {
        TileConsole x = Check.console(0);
        for (int at = 0; at < WIDTH; at += 53) {
            Check.equal("0 before", 0, x.pixel(at));
        }
        Check.put(x, 0xFF47, 2);
        Check.equal("BGP's lowest", 320, x.row(0));
        Check.put(x, 0xFF47, 1);
        Check.equal("pixels are of the row that was made", 2, x.pixel(80));
        Check.refuses("a wrong y", IllegalArgumentException.class, () -> x.row(144));
        Check.equal("and stay behind a wrong y", 2, x.pixel(0));
        Check.equal("made anew", 160, x.row(5));
        Check.equal("then", 1, x.pixel(159));
        Check.put(x, LCDC, 0x11);
        Check.equal("stays when the screen goes off", 1, x.pixel(159));
        Check.equal("off: all 0", 0, x.row(5));
        Check.equal("off: pixel 0", 0, x.pixel(159));
        Check.put(x, LCDC, 0x90);
        Check.equal("without LCDC's bit 0: number 0 by BGP", 160, x.row(5));
        Check.equal("no cycles", 0, x.count(Check.CYCLES));
    }

    private static String shown(TileConsole x, int y, int from, int n) {
        x.row(y);
        StringBuilder text = new StringBuilder();
        for (int at = from; at < from + n; at++) {
            text.append(x.pixel(at));
        }
        return text.toString();
    }

    private static void isShown(String what, String want, TileConsole x, int y, int from) {
        String got = shown(x, y, from, want.length());
        Check.isTrue(what + ": " + got + ", due is " + want, want.equals(got));
    }

    /** Numbers 0 to 3 are shown as they are; tile 1 has rows of 01230123, tile 2 rows of 11111112. */
    private static TileConsole painted() {
        TileConsole x = Check.console(0);
        Check.put(x, 0xFF47, 0xE4);
        Check.put(x, 0xFF48, 0xE4);
        Check.put(x, 0xFF49, 0x1B);
        for (int k = 0; k < 16; k += 2) {
            Check.putAll(x, 0x8010 + k, 0x55, 0x33);
            Check.putAll(x, 0x8020 + k, 0xFE, 0x01);
        }
        return x;
    }

    private static void background() {
        TileConsole x = painted();
        Check.put(x, 0x9801, 1);
        Check.put(x, 0x983F, 2);
        isShown("tile 1", "0000000001230123000", x, 0, 0);
        isShown("tile 1 in row 7", "0000000001230123000", x, 7, 0);
        isShown("not in row 8", "0000000000000000", x, 8, 0);
        Check.put(x, 0xFF43, 3);
        isShown("SCX 3", "0000001230123000", x, 0, 0);
        Check.put(x, 0xFF43, 248);
        isShown("SCX comes round", "000000000000000001230123", x, 0, 0);
        Check.put(x, 0xFF42, 8);
        isShown("SCY 8", "111111120000", x, 0, 0);
        Check.put(x, 0xFF42, 250);
        isShown("SCY comes round", "0123", x, 6, 16);
        isShown("SCY comes round, row 5", "0000", x, 5, 16);
        isShown("SCY comes round, row 14", "11111112", x, 14, 0);
        Check.put(x, LCDC, 0x99);
        isShown("the other map", "00000000", x, 14, 0);
        Check.put(x, 0x9C3F, 1);
        isShown("the other map's tile", "01230123", x, 14, 0);
        Check.put(x, 0xFF47, 0x1B);
        isShown("BGP turned", "32103210", x, 14, 0);
    }

    private static void tilePlaces() {
        TileConsole x = painted();
        Check.put(x, 0x9800, 0x80);
        Check.put(x, 0x9801, 0x7F);
        Check.put(x, 0x9802, 0x00);
        Check.put(x, 0x9803, 0xFF);
        Check.putAll(x, 0x8000 + 2 * 3, 0xFF, 0x00);
        Check.putAll(x, 0x8800 + 2 * 3, 0x00, 0xFF);
        Check.putAll(x, 0x97F0 + 2 * 3, 0xFF, 0xFF);
        Check.putAll(x, 0x9000 + 2 * 3, 0xF0, 0x0F);
        Check.putAll(x, 0x8FF0 + 2 * 3, 0x0F, 0xF0);
        isShown("with bit 4", "22222222000000001111111122221111", x, 3, 0);
        Check.put(x, LCDC, 0x81);
        isShown("without bit 4", "22222222333333331111222222221111", x, 3, 0);
    }

    private static void window() {
        TileConsole x = painted();
        for (int i = 0; i < 32; i++) {
            Check.put(x, 0x9800 + 32 * 12 + i, 2);
        }
        Check.put(x, 0x9C00, 1);
        Check.put(x, 0x9C14, 1);
        Check.put(x, 0xFF42, 96);
        Check.put(x, 0xFF4A, 3);
        Check.put(x, 0xFF4B, 15);
        isShown("no WINDOW without bit 5", "111111121111111211111112", x, 3, 0);
        Check.put(x, LCDC, 0xF1);
        isShown("WINDOW", "111111120123012300000000", x, 3, 0);
        isShown("above it", "111111121111111211111112", x, 2, 0);
        Check.put(x, 0xFF43, 4);
        isShown("SCX does not move it", "111211110123012300000000", x, 3, 0);
        Check.put(x, 0xFF43, 0);
        Check.put(x, 0xFF4B, 7);
        isShown("WX 7", "0123012300000000", x, 3, 0);
        Check.put(x, 0xFF4B, 5);
        isShown("WX 5", "23012300", x, 3, 0);
        Check.put(x, 0xFF4B, 0);
        isShown("WX 0", "30000000", x, 3, 0);
        isShown("WX 0 at the end", "0000123012", x, 3, 150);
        Check.put(x, 0xFF4B, 166);
        isShown("WX 166", "11111110", x, 3, 152);
        Check.put(x, 0xFF4B, 167);
        isShown("WX 167", "11111112", x, 3, 152);
        Check.put(x, 0xFF4B, 7);
        Check.put(x, LCDC, 0xF0);
        isShown("no WINDOW without bit 0", "0000000000000000", x, 3, 0);
        Check.put(x, LCDC, 0xB9);
        Check.put(x, 0x9800, 2);
        isShown("WINDOW's map without bit 6", "1111111200000000", x, 3, 0);
    }

    private static void sprite(TileConsole x, int i, int y, int at, int tile, int flags) {
        Check.putAll(x, 0xFE00 + 4 * i, y, at, tile, flags);
    }

    private static void oneSprite() {
        TileConsole x = painted();
        sprite(x, 39, 26, 12, 1, 0);
        isShown("no SPRITES without bit 1", "000000000000000", x, 10, 0);
        Check.put(x, LCDC, 0x93);
        isShown("the sprite", "000001230123000", x, 10, 0);
        isShown("its last row", "000001230123000", x, 17, 0);
        isShown("above", "000000000000000", x, 9, 0);
        isShown("below", "000000000000000", x, 18, 0);
        sprite(x, 39, 26, 12, 1, 0x20);
        isShown("left to right", "000032103210000", x, 10, 0);
        sprite(x, 39, 26, 12, 1, 0x10);
        isShown("OBP 1", "000002100210000", x, 10, 0);
        Check.putAll(x, 0x8030, 0xFF, 0x00);
        Check.putAll(x, 0x803E, 0x00, 0xFF);
        sprite(x, 39, 26, 12, 3, 0);
        isShown("first row", "00001111111100", x, 10, 0);
        isShown("last row", "00002222222200", x, 17, 0);
        sprite(x, 39, 26, 12, 3, 0x40);
        isShown("upside down, first row", "00002222222200", x, 10, 0);
        isShown("upside down, last row", "00001111111100", x, 17, 0);
        Check.put(x, LCDC, 0x83);
        isShown("a sprite's tile is at 0x8000 without bit 4, too", "00002222222200", x, 10, 0);
        Check.put(x, LCDC, 0x82);
        isShown("SPRITES without bit 0", "00002222222200", x, 10, 0);
        Check.put(x, LCDC, 0x13);
        isShown("not without bit 7", "00000000000000", x, 10, 0);
    }

    private static void tallSprites() {
        TileConsole x = painted();
        Check.put(x, LCDC, 0x97);
        Check.putAll(x, 0x8060, 0x80, 0x00);
        Check.putAll(x, 0x806E, 0x40, 0x00);
        Check.putAll(x, 0x8070, 0x20, 0x00);
        Check.putAll(x, 0x807E, 0x10, 0x00);
        int[] tiles = {6, 7};
        for (int tile : tiles) {
            sprite(x, 0, 16, 8, tile, 0);
            isShown("row 0 of tile " + tile, "10000000", x, 0, 0);
            isShown("row 7", "01000000", x, 7, 0);
            isShown("row 8", "00100000", x, 8, 0);
            isShown("row 15", "00010000", x, 15, 0);
            sprite(x, 0, 16, 8, tile, 0x60);
            isShown("turned, row 0", "00001000", x, 0, 0);
            isShown("turned, row 7", "00000100", x, 7, 0);
            isShown("turned, row 8", "00000010", x, 8, 0);
            isShown("turned, row 15", "00000001", x, 15, 0);
            isShown("row 16", "00000000", x, 16, 0);
        }
    }

    private static void tenSprites() {
        TileConsole x = painted();
        Check.put(x, LCDC, 0x93);
        sprite(x, 0, 100, 88, 2, 0);
        for (int i = 1; i <= 12; i++) {
            sprite(x, i, 20, 8 * i, 2, 0);
        }
        isShown("the tenth", "11111112", x, 4, 72);
        isShown("no eleventh", "0000000000000000", x, 4, 80);
        sprite(x, 1, 20, 0, 2, 0);
        isShown("one out of sight counts", "00000000", x, 4, 80);
        sprite(x, 1, 12, 8, 2, 0);
        isShown("one that is not on the row does not", "1111111200000000", x, 4, 80);
        sprite(x, 1, 20, 8, 4, 0);
        isShown("an empty one counts", "00000000", x, 4, 80);
    }

    private static void spriteOrder() {
        TileConsole x = painted();
        Check.put(x, LCDC, 0x93);
        sprite(x, 0, 16, 20, 2, 0);
        sprite(x, 1, 16, 16, 1, 0);
        isShown("the least x is ahead, where its number is not 0", "01231123111200", x, 0, 8);
        sprite(x, 1, 16, 20, 1, 0);
        isShown("of the same x the first", "00001111111200", x, 0, 8);
        sprite(x, 0, 16, 20, 1, 0);
        sprite(x, 1, 16, 20, 2, 0);
        isShown("number 0 lets the next through", "00001123112300", x, 0, 8);
        sprite(x, 0, 16, 20, 1, 0x80);
        Check.put(x, 0x9801, 2);
        Check.put(x, 0x9802, 2);
        isShown("the one ahead decides, seen or not", "11211111112", x, 0, 13);
    }

    private static void spriteBehind() {
        TileConsole x = painted();
        Check.put(x, LCDC, 0x93);
        Check.put(x, 0x9800, 1);
        sprite(x, 0, 16, 8, 2, 0x80);
        isShown("behind", "11231123", x, 0, 0);
        sprite(x, 0, 16, 8, 2, 0x00);
        isShown("before", "11111112", x, 0, 0);
        Check.put(x, 0xFF47, 0xE5);
        sprite(x, 0, 16, 8, 2, 0x80);
        Check.put(x, 0x9800, 0);
        Check.put(x, 0xFF48, 0x24);
        isShown("number 0 lets it be seen, whatever its colour", "11111112", x, 0, 0);
        Check.put(x, 0xFF48, 0x00);
        isShown("a sprite's colour can be 0", "000000001", x, 0, 0);
        Check.put(x, LCDC, 0x92);
        Check.put(x, 0x9800, 1);
        isShown("without bit 0 nothing is before it", "000000001", x, 0, 0);
    }

    private static void spriteEdges() {
        TileConsole x = painted();
        Check.put(x, LCDC, 0x93);
        sprite(x, 0, 16, 1, 2, 0);
        isShown("x 1", "20000000", x, 0, 0);
        sprite(x, 0, 16, 0, 2, 0);
        isShown("x 0", "00000000", x, 0, 0);
        sprite(x, 0, 16, 167, 2, 0);
        isShown("x 167", "0001", x, 0, 156);
        sprite(x, 0, 16, 168, 2, 0);
        isShown("x 168", "0000", x, 0, 156);
        sprite(x, 0, 9, 8, 2, 0);
        isShown("y 9", "11111112", x, 0, 0);
        sprite(x, 0, 8, 8, 2, 0);
        isShown("y 8", "00000000", x, 0, 0);
        sprite(x, 0, 159, 8, 2, 0);
        isShown("y 159", "11111112", x, 143, 0);
        sprite(x, 0, 160, 8, 2, 0);
        isShown("y 160", "00000000", x, 143, 0);
        sprite(x, 0, 255, 255, 2, 0);
        isShown("far away", "00000000", x, 143, 152);
    }

    /** Random pictures, each pixel found once more by the document's words. */
    private static void againstTheDocument() {
        Random random = new Random(20261115);
        for (int round = 0; round < 400; round++) {
            TileConsole x = Check.console(0);
            int[] memory = new int[0x10000];
            int middle = paint(x, memory, random);
            // Near the sprites, so that often more than ten of them are on the row.
            int y = Math.min(143, Math.max(0, middle + random.nextInt(16)));
            int sum = x.row(y);
            int due = 0;
            for (int at = 0; at < WIDTH; at++) {
                int want = pixel(memory, at, y);
                due += want;
                Check.equal("round " + round + ", row " + y + ", pixel " + at, want, x.pixel(at));
            }
            Check.equal("round " + round + ", row " + y, due, sum);
        }
    }

    private static void octets(TileConsole x, int[] memory, int address, long w) {
        x.write(address, 8, w);
        for (int i = 0; i < 8; i++) {
            memory[address + i] = (int) (w >>> 8 * i) & 255;
        }
    }

    private static int paint(TileConsole x, int[] memory, Random random) {
        for (int i = 0; i < 200; i++) {
            // Tiles with the lowest and highest numbers, which the maps below name.
            int tile = random.nextInt(384) & 0x187;
            octets(x, memory, 0x8000 + 16 * tile + 8 * random.nextInt(2), random.nextLong());
        }
        for (int i = 0; i < 90; i++) {
            octets(x, memory, 0x9800 + 8 * random.nextInt(256), random.nextLong() & 0x8787878787878787L);
        }
        int middle = random.nextInt(160);
        for (int i = 0; i < 20; i++) {
            long w = random.nextLong() & 0xFF87FF00FF87FF00L;
            w |= middle + random.nextInt(24) & 255;
            w |= (middle + random.nextInt(24) & 255L) << 32;
            octets(x, memory, 0xFE00 + 8 * i, w);
        }
        int[] ports = {0x40, 0x42, 0x43, 0x47, 0x48, 0x49, 0x4A, 0x4B};
        for (int port : ports) {
            int v = random.nextInt(256);
            v = port == 0x40 ? v | 0x80 | (random.nextInt(4) > 0 ? 3 : 0) : v;
            v = port >= 0x4A ? v % 170 : v;
            Check.put(x, 0xFF00 + port, v);
            memory[0xFF00 + port] = v;
        }
        return middle - 16;
    }

    private static int number(int[] memory, int place, int k, int column) {
        int mask = 128 >> column;
        return ((memory[place + 2 * k] & mask) != 0 ? 1 : 0) + ((memory[place + 2 * k + 1] & mask) != 0 ? 2 : 0);
    }

    private static int backgroundNumber(int[] memory, int x, int y) {
        int lcdc = memory[LCDC];
        if ((lcdc & 1) == 0) {
            return 0;
        }
        int column = (x + memory[0xFF43]) % 256;
        int row = (y + memory[0xFF42]) % 256;
        boolean other = (lcdc & 8) != 0;
        if ((lcdc & 32) != 0 && y >= memory[0xFF4A] && x + 7 >= memory[0xFF4B]) {
            column = x + 7 - memory[0xFF4B];
            row = y - memory[0xFF4A];
            other = (lcdc & 64) != 0;
        }
        int t = memory[(other ? 0x9C00 : 0x9800) + 32 * (row / 8) + column / 8];
        int place = (lcdc & 16) != 0 ? 0x8000 + 16 * t : 0x9000 + 16 * (t < 128 ? t : t - 256);
        return number(memory, place, row % 8, column % 8);
    }

    private static int pixel(int[] memory, int x, int y) {
        int lcdc = memory[LCDC];
        int background = backgroundNumber(memory, x, y);
        int height = (lcdc & 4) != 0 ? 16 : 8;
        int onRow = 0;
        int best = -1;
        int bestNumber = 0;
        for (int s = 0xFE00; s < 0xFEA0 && (lcdc & 2) != 0; s += 4) {
            int k = y + 16 - memory[s];
            if (k < 0 || k >= height || ++onRow > 10) {
                continue;
            }
            int column = x + 8 - memory[s + 1];
            if (column < 0 || column > 7) {
                continue;
            }
            k = (memory[s + 3] & 64) != 0 ? height - 1 - k : k;
            column = (memory[s + 3] & 32) != 0 ? 7 - column : column;
            int tile = height == 16 ? memory[s + 2] / 2 * 2 + k / 8 : memory[s + 2];
            int number = number(memory, 0x8000 + 16 * tile, k % 8, column);
            if (number != 0 && (best < 0 || memory[s + 1] < memory[best + 1])) {
                best = s;
                bestNumber = number;
            }
        }
        if (best >= 0 && ((memory[best + 3] & 128) == 0 || background == 0)) {
            return memory[(memory[best + 3] & 16) != 0 ? 0xFF49 : 0xFF48] >> 2 * bestNumber & 3;
        }
        return memory[0xFF47] >> 2 * background & 3;
    }
}
