/** The term ROW at its edges, a method for each sentence, whose words stand above it. */
public final class RowEdgeTest {
    private static final int LCDC = 0xFF40;
    private static final int SCY = 0xFF42;
    private static final int SCX = 0xFF43;
    private static final int BGP = 0xFF47;
    private static final int WY = 0xFF4A;
    private static final int WX = 0xFF4B;

    public static void main(String[] args) {
        rowsAsAllIsNow();
        noBackground();
        windowNeedsBit();
        windowFromWy();
        windowFromWx();
        windowPlace();
        windowMap();
        backgroundComesRound();
        backgroundMap();
        mapEnds();
        tilesUnsigned();
        tilesSigned();
        tileRowsAndColumns();
        numbers();
        spritesNeedBit();
        spritesAreForty();
        spriteRows();
        tallSpriteRows();
        tallSpriteTiles();
        firstTen();
        spriteColumns();
        spriteAtTheSides();
        spriteNumberZero();
        spriteTurned();
        tallSpriteTurned();
        leastX();
        ofTheseTheFirst();
        behindBackground();
        onlyTheOneAhead();
        palettes();
        screenIsOff();
        Check.finish("RowEdgeTest");
    }

    private static String row(TileConsole x, int y, int from, int n) {
        x.row(y);
        StringBuilder text = new StringBuilder();
        for (int at = from; at < from + n; at++) {
            text.append(x.pixel(at));
        }
        return text.toString();
    }

    private static void shows(String what, String due, TileConsole x, int y, int from) {
        String seen = row(x, y, from, due.length());
        Check.isTrue(what + ": row " + y + " from " + from + " is " + seen + ", due is " + due, due.equals(seen));
    }

    /** Numbers are shown as they are. Tile 1: rows of 12300321; tile 2: its row k has 1 at column k alone; tile 3: all 3. */
    private static TileConsole painted(int lcdc) {
        TileConsole x = new TileConsole();
        Check.put(x, BGP, 0xE4);
        Check.put(x, 0xFF48, 0xE4);
        Check.put(x, 0xFF49, 0xE4);
        Check.put(x, LCDC, lcdc);
        for (int k = 0; k < 8; k += 4) {
            x.write(0x8010 + 2 * k, 8, 0x66A566A566A566A5L);
            x.write(0x8030 + 2 * k, 8, -1L);
        }
        x.write(0x8020, 8, 0x0010002000400080L);
        x.write(0x8028, 8, 0x0001000200040008L);
        return x;
    }

    private static void sprite(TileConsole x, int i, int y, int left, int tile, int flags) {
        Check.putAll(x, 0xFE00 + 4 * i, y, left, tile, flags);
    }

    // "ROW y (0..143) as all is now: for x 0 to 159"
    private static void rowsAsAllIsNow() {
        TileConsole x = painted(0x91);
        Check.put(x, 0x9800, 1);
        Check.put(x, 0x9813, 1);
        shows("first columns", "123003210", x, 0, 0);
        shows("last columns", "012300321", x, 0, 151);
        Check.equal("the sum", 24, x.row(7));
        Check.put(x, 0x9800 + 32 * 17 + 19, 1);
        shows("last row", "12300321", x, 143, 152);
        Check.put(x, 0x9800 + 32 * 17 + 19, 0);
        shows("as all is now", "00000000", x, 143, 152);
    }

    // "BACKGROUND number: 0 if LCDC has no bit 0"
    private static void noBackground() {
        TileConsole x = painted(0xB0);
        Check.put(x, WX, 7);
        Check.put(x, 0x9800, 1);
        shows("without bit 0", "00000000", x, 0, 0);
        Check.put(x, BGP, 0xE6);
        shows("without bit 0: BGP's number 0", "22222222", x, 0, 0);
        Check.put(x, LCDC, 0xB1);
        shows("with bit 0", "12322321", x, 0, 0);
    }

    // "with bit 5"
    private static void windowNeedsBit() {
        TileConsole x = painted(0xD1);
        Check.put(x, WX, 7);
        Check.put(x, 0x9C00, 1);
        shows("without bit 5", "00000000", x, 0, 0);
        Check.put(x, LCDC, 0xF1);
        shows("with bit 5", "12300321", x, 0, 0);
    }

    // "y not below WY"
    private static void windowFromWy() {
        TileConsole x = painted(0xF1);
        Check.put(x, WX, 7);
        Check.put(x, 0x9C00, 1);
        int[] tops = {0, 1, 100, 143};
        for (int top : tops) {
            Check.put(x, WY, top);
            if (top > 0) {
                shows("above WY " + top, "00000000", x, top - 1, 0);
            }
            shows("at WY " + top, "12300321", x, top, 0);
        }
        int[] outside = {144, 255};
        for (int top : outside) {
            Check.put(x, WY, top);
            shows("WY " + top, "00000000", x, 143, 0);
        }
    }

    // "x + 7 not below WX"
    private static void windowFromWx() {
        TileConsole x = painted(0xF1);
        Check.put(x, 0x9C00, 3);
        // The WINDOW has no column before its first.
        Check.put(x, 0x9C1F, 3);
        int[][] asked = {{0, 0, 1}, {6, 0, 7}, {7, 0, 8}, {8, 1, 8}, {158, 151, 8}, {159, 152, 8}, {160, 153, 7}, {166, 159, 1}};
        for (int[] a : asked) {
            Check.put(x, WX, a[0]);
            Check.equal("WX " + a[0] + ": its tile has so many columns", 3 * a[2], x.row(0));
            Check.equal("WX " + a[0] + ": its first column", 3, x.pixel(a[1]));
            if (a[1] > 0) {
                Check.equal("WX " + a[0] + ": before it", 0, x.pixel(a[1] - 1));
            }
        }
        int[] outside = {167, 255};
        for (int left : outside) {
            Check.put(x, WX, left);
            Check.equal("WX " + left, 0, x.row(0));
        }
    }

    // "the WINDOW at (x + 7 - WX, y - WY)": SCX and SCY are nothing to it.
    private static void windowPlace() {
        TileConsole x = painted(0xF1);
        Check.put(x, SCX, 77);
        Check.put(x, SCY, 99);
        Check.put(x, WX, 15);
        Check.put(x, WY, 20);
        Check.put(x, 0x9C00, 2);
        Check.put(x, 0x9C20, 1);
        shows("its row 0", "10000000", x, 20, 8);
        shows("its row 7", "00000001", x, 27, 8);
        shows("its row 8", "12300321", x, 28, 8);
        Check.put(x, WX, 0);
        Check.put(x, WY, 0);
        Check.put(x, 0x9C00 + 32 * 17 + 20, 1);
        shows("its last column and row", "123003", x, 143, 153);
    }

    // "the WINDOW ..., map 0x9C00 with bit 6; ... else 0x9800"
    private static void windowMap() {
        TileConsole x = painted(0xF1);
        Check.put(x, WX, 7);
        Check.put(x, 0x9800, 1);
        Check.put(x, 0x9C00, 3);
        shows("with bit 6", "33333333", x, 0, 0);
        Check.put(x, LCDC, 0xB9);
        shows("without bit 6, bit 3 or not", "12300321", x, 0, 0);
    }

    // "else at (x + SCX, y + SCY) & 255"
    private static void backgroundComesRound() {
        TileConsole x = painted(0x91);
        Check.put(x, 0x9800, 2);
        Check.put(x, 0x981F, 3);
        Check.put(x, 0x9BE0, 1);
        Check.put(x, SCX, 255);
        shows("SCX 255: column 255, then 0", "310000000", x, 0, 0);
        Check.put(x, SCX, 97);
        shows("SCX 97: column 256 at 159", "31", x, 0, 158);
        Check.put(x, SCX, 96);
        shows("SCX 96: column 255 at 159", "33", x, 0, 158);
        Check.put(x, SCX, 0);
        Check.put(x, SCY, 255);
        shows("SCY 255: row 255", "12300321", x, 0, 0);
        shows("SCY 255: row 0", "10000000", x, 1, 0);
        Check.put(x, SCY, 113);
        shows("SCY 113: row 256 at 143", "10000000", x, 143, 0);
        Check.put(x, SCY, 112);
        shows("SCY 112: row 255 at 143", "12300321", x, 143, 0);
    }

    // "map 0x9C00 with bit 3; else 0x9800"
    private static void backgroundMap() {
        TileConsole x = painted(0x91);
        Check.put(x, 0x9800, 1);
        Check.put(x, 0x9C00, 3);
        shows("without bit 3", "12300321", x, 0, 0);
        Check.put(x, LCDC, 0xD1);
        shows("bit 6 is the WINDOW's", "12300321", x, 0, 0);
        Check.put(x, LCDC, 0x99);
        shows("with bit 3", "33333333", x, 0, 0);
    }

    // "the OCTET at map + 32 * (row / 8) + column / 8", at the four corners of both maps
    private static void mapEnds() {
        int[] maps = {0x9800, 0x9C00};
        for (int map : maps) {
            TileConsole x = painted(map == 0x9800 ? 0x91 : 0x99);
            Check.put(x, map, 3);
            Check.put(x, map + 31, 1);
            Check.put(x, map + 32 * 31, 2);
            Check.put(x, map + 32 * 31 + 31, 3);
            Check.put(x, SCX, 248);
            shows("upper corners", "1230032133333333", x, 7, 0);
            shows("below them", "0000000000000000", x, 8, 0);
            Check.put(x, SCY, 248);
            shows("lower corners", "3333333310000000", x, 0, 0);
            shows("lower corners, last row", "3333333300000001", x, 7, 0);
        }
    }

    // "with bit 4 its 16 OCTETS are at 0x8000 + 16 t"
    private static void tilesUnsigned() {
        TileConsole x = painted(0x91);
        Check.putAll(x, 0x9800, 0, 127, 128, 255);
        Check.putAll(x, 0x8000, 0x80, 0);
        Check.putAll(x, 0x87F0, 0x40, 0);
        Check.putAll(x, 0x8800, 0x20, 0);
        Check.putAll(x, 0x8FF0, 0x10, 0);
        Check.putAll(x, 0x9000, 0xFF, 0);
        shows("0, 127, 128, 255", "10000000010000000010000000010000", x, 0, 0);
    }

    // "else at 0x9000 + 16 t as a signed octet"
    private static void tilesSigned() {
        TileConsole x = painted(0x81);
        Check.putAll(x, 0x9800, 0, 127, 128, 255);
        Check.putAll(x, 0x9000, 0x80, 0);
        Check.putAll(x, 0x97F0, 0x40, 0);
        Check.putAll(x, 0x8800, 0x20, 0);
        Check.putAll(x, 0x8FF0, 0x10, 0);
        Check.putAll(x, 0x8000, 0xFF, 0);
        shows("0, 127, 128, 255", "10000000010000000010000000010000", x, 0, 0);
        Check.put(x, LCDC, 0xA1);
        Check.put(x, WX, 7);
        shows("the WINDOW's as well", "10000000010000000010000000010000", x, 0, 0);
    }

    // "row k: OCTETS 2 k and 2 k + 1, bit 7 - column & 7"
    private static void tileRowsAndColumns() {
        TileConsole x = painted(0x91);
        Check.put(x, 0x9800, 2);
        for (int k = 0; k < 8; k++) {
            shows("row " + k, "00000000".substring(0, k) + "1" + "00000000".substring(k), x, k, 0);
        }
    }

    // "of the first is 1, of the second 2 of the number"
    private static void numbers() {
        TileConsole x = painted(0x91);
        Check.put(x, 0x9800, 4);
        Check.putAll(x, 0x8040, 0x0F, 0x33);
        shows("both", "00221133", x, 0, 0);
    }

    // "SPRITES with bit 1"
    private static void spritesNeedBit() {
        TileConsole x = painted(0x91);
        sprite(x, 0, 16, 8, 1, 0);
        shows("without bit 1", "00000000", x, 0, 0);
        Check.put(x, LCDC, 0x93);
        shows("with bit 1", "12300321", x, 0, 0);
    }

    // "(y, x, tile, flags) of 4 OCTETS": the first and the last of the 160 OCTETS
    private static void spritesAreForty() {
        TileConsole x = painted(0x93);
        sprite(x, 0, 16, 8, 1, 0);
        sprite(x, 39, 16, 24, 1, 0x20);
        sprite(x, 38, 16, 40, 3, 0);
        shows("first, last and the last but one", "12300321000000001230032100000000333333330", x, 0, 0);
    }

    // "8 high"; "on the ROW if y - (its y - 16) is 0 to its height less 1"
    private static void spriteRows() {
        int[][] asked = {{16, 0, 7}, {26, 10, 17}, {9, 0, 0}, {10, 0, 1}, {159, 143, 143}, {152, 136, 143}, {153, 137, 143}};
        for (int[] a : asked) {
            TileConsole x = painted(0x93);
            sprite(x, 0, a[0], 8, 3, 0);
            if (a[1] > 0) {
                shows("above y " + a[0], "00", x, a[1] - 1, 0);
            }
            shows("first of y " + a[0], "33", x, a[1], 0);
            shows("last of y " + a[0], "33", x, a[2], 0);
            if (a[2] < 143) {
                shows("below y " + a[0], "00", x, a[2] + 1, 0);
            }
        }
        int[] outside = {0, 8, 160, 255};
        for (int top : outside) {
            TileConsole x = painted(0x93);
            sprite(x, 0, top, 8, 3, 0);
            Check.equal("y " + top + ": row 0", 0, x.row(0));
            Check.equal("y " + top + ": row 143", 0, x.row(143));
        }
    }

    // "with bit 2 16"
    private static void tallSpriteRows() {
        int[][] asked = {{16, 0, 15}, {26, 10, 25}, {1, 0, 0}, {2, 0, 1}, {159, 143, 143}, {144, 128, 143}, {145, 129, 143}};
        for (int[] a : asked) {
            TileConsole x = painted(0x97);
            x.write(0x8020, 8, -1);
            x.write(0x8028, 8, -1);
            sprite(x, 0, a[0], 8, 2, 0);
            if (a[1] > 0) {
                shows("tall, above y " + a[0], "00", x, a[1] - 1, 0);
            }
            shows("tall, first of y " + a[0], "33", x, a[1], 0);
            shows("tall, last of y " + a[0], "33", x, a[2], 0);
            if (a[2] < 143) {
                shows("tall, below y " + a[0], "00", x, a[2] + 1, 0);
            }
        }
        int[] outside = {0, 160, 255};
        for (int top : outside) {
            TileConsole x = painted(0x97);
            sprite(x, 0, top, 8, 2, 0);
            Check.equal("tall, y " + top, 0, x.row(0) + x.row(143));
        }
    }

    // "(the tile's lowest bit is 0 then, the lower half the next one)"
    private static void tallSpriteTiles() {
        for (int tile = 2; tile <= 3; tile++) {
            TileConsole x = painted(0x97);
            sprite(x, 0, 16, 8, tile, 0);
            shows("tile " + tile + ", row 0", "10000000", x, 0, 0);
            shows("tile " + tile + ", row 7", "00000001", x, 7, 0);
            shows("tile " + tile + ", row 8", "33333333", x, 8, 0);
            shows("tile " + tile + ", row 15", "33333333", x, 15, 0);
            Check.put(x, LCDC, 0x93);
            shows("8 high: tile " + tile, tile == 2 ? "10000000" : "33333333", x, 0, 0);
        }
        TileConsole x = painted(0x97);
        Check.putAll(x, 0x8FE0, 0xFF, 0);
        Check.putAll(x, 0x8FFE, 0, 0xFF);
        sprite(x, 0, 16, 8, 255, 0);
        shows("tile 255, row 0", "11111111", x, 0, 0);
        shows("tile 255, row 15", "22222222", x, 15, 0);
    }

    // "the first ten of these alone"
    private static void firstTen() {
        TileConsole x = painted(0x93);
        for (int i = 0; i < 9; i++) {
            sprite(x, 2 * i, 16, 8 + 8 * i, 3, 0);
            sprite(x, 2 * i + 1, 24, 8, 3, 0);
        }
        Check.equal("nine", 9 * 24, x.row(0));
        sprite(x, 20, 16, 88, 3, 0);
        Check.equal("ten", 10 * 24, x.row(0));
        sprite(x, 39, 16, 108, 3, 0);
        Check.equal("eleven", 10 * 24, x.row(0));
        Check.equal("the eleventh is not seen", 0, x.pixel(100));
        sprite(x, 19, 16, 200, 3, 0);
        Check.equal("one beyond the side is one of the ten", 9 * 24, x.row(0));
        Check.equal("so that the next is the eleventh", 0, x.pixel(80));
        sprite(x, 19, 24, 200, 3, 0);
        sprite(x, 0, 16, 8, 0, 0);
        Check.equal("one of numbers 0 is one of the ten", 9 * 24, x.row(0));
        Check.equal("on the other row there are nine", 24, x.row(8));
    }

    // "x - (its x - 8) 0 to 7"
    private static void spriteColumns() {
        TileConsole x = painted(0x93);
        sprite(x, 0, 16, 20, 1, 0);
        shows("from x 12 on", "0123003210", x, 0, 11);
    }

    // "x - (its x - 8) 0 to 7", half or wholly beyond the sides
    private static void spriteAtTheSides() {
        int[][] asked = {{0, 0}, {1, 1}, {7, 7}, {8, 8}, {160, 8}, {161, 7}, {167, 1}, {168, 0}, {255, 0}};
        for (int[] a : asked) {
            TileConsole x = painted(0x93);
            sprite(x, 0, 16, a[0], 3, 0);
            Check.equal("x " + a[0], 3 * a[1], x.row(0));
            Check.equal("x " + a[0] + ": pixel 0", a[0] >= 1 && a[0] <= 8 ? 3 : 0, x.pixel(0));
            Check.equal("x " + a[0] + ": pixel 159", a[0] >= 160 && a[0] <= 167 ? 3 : 0, x.pixel(159));
        }
        TileConsole x = painted(0x93);
        sprite(x, 0, 16, 1, 1, 0);
        shows("its last column", "10", x, 0, 0);
        sprite(x, 0, 16, 167, 1, 0);
        shows("its first column", "01", x, 0, 158);
    }

    // "and a number not 0": the BACKGROUND is seen there.
    private static void spriteNumberZero() {
        TileConsole x = painted(0x93);
        Check.put(x, 0x9800, 3);
        sprite(x, 0, 16, 8, 1, 0);
        shows("over number 3", "12333321", x, 0, 0);
        Check.put(x, 0xFF48, 0xE7);
        shows("whatever OBP makes of 0", "12333321", x, 0, 0);
    }

    // "flags 64, 32 turn it upside down, left to right"
    private static void spriteTurned() {
        TileConsole x = painted(0x93);
        int[][] asked = {{0x00, 0, 0}, {0x40, 7, 0}, {0x20, 0, 7}, {0x60, 7, 7}};
        for (int[] a : asked) {
            sprite(x, 0, 16, 8, 2, a[0]);
            for (int k = 0; k < 8; k += 7) {
                int column = Math.abs(a[2] - Math.abs(a[1] - k));
                shows("flags " + a[0] + ", row " + k, "0000000".substring(0, column) + "1" + "0000000".substring(column), x, k, 0);
            }
        }
        sprite(x, 0, 16, 8, 1, 0x20);
        Check.put(x, 0x8010, 0xFF);
        shows("left to right", "13311331", x, 0, 0);
        Check.putAll(x, 0x8010, 0xF0, 0x00);
        shows("left to right, not the same", "00001111", x, 0, 0);
    }

    // the same with 16 rows: the halves change places, too.
    private static void tallSpriteTurned() {
        TileConsole x = painted(0x97);
        sprite(x, 0, 16, 8, 2, 0x40);
        shows("row 0", "33333333", x, 0, 0);
        shows("row 7", "33333333", x, 7, 0);
        shows("row 8", "00000001", x, 8, 0);
        shows("row 15", "10000000", x, 15, 0);
    }

    // "the one with the least x"
    private static void leastX() {
        TileConsole x = painted(0x93);
        sprite(x, 0, 16, 16, 3, 0);
        sprite(x, 1, 16, 15, 1, 0);
        shows("the later with the lesser x, where it has a number", "01233332130", x, 0, 6);
        sprite(x, 1, 16, 17, 1, 0);
        shows("the later with the greater x", "00333333331", x, 0, 6);
    }

    // "of these the first"
    private static void ofTheseTheFirst() {
        TileConsole x = painted(0x93);
        sprite(x, 3, 16, 16, 1, 0);
        sprite(x, 4, 16, 16, 3, 0);
        shows("the same x", "12333321", x, 0, 8);
        sprite(x, 2, 16, 16, 3, 0);
        shows("the same x, another first", "33333333", x, 0, 8);
    }

    // "it is seen unless flags 128 and the BACKGROUND number is not 0"
    private static void behindBackground() {
        TileConsole x = painted(0x93);
        Check.put(x, 0x9800, 1);
        sprite(x, 0, 16, 8, 3, 0x80);
        shows("flags 128", "12333321", x, 0, 0);
        sprite(x, 0, 16, 8, 3, 0x0F);
        shows("other flags", "33333333", x, 0, 0);
        sprite(x, 0, 16, 8, 3, 0x80);
        Check.put(x, BGP, 0x00);
        shows("the number, not its colour", "00033000", x, 0, 0);
        Check.put(x, BGP, 0xFF);
        Check.put(x, LCDC, 0x92);
        Check.put(x, 0xFF48, 0x40);
        shows("without bit 0 the number is 0", "11111111", x, 0, 0);
    }

    // "the one with the least x ...; it is seen unless": another does not come in its place.
    private static void onlyTheOneAhead() {
        TileConsole x = painted(0x93);
        Check.put(x, 0x9800, 1);
        sprite(x, 0, 16, 8, 3, 0x80);
        sprite(x, 1, 16, 9, 3, 0);
        shows("the one ahead is behind the BACKGROUND", "123333213", x, 0, 0);
    }

    // "PIXEL: (BGP, or OBP flags 16) >> 2 * number & 3"
    private static void palettes() {
        TileConsole x = painted(0x93);
        Check.putAll(x, 0x8040, 0x55, 0x33);
        Check.put(x, 0x9800, 4);
        int[] palettes = {0x00, 0xFF, 0x1B, 0xE4, 0x03, 0xC0};
        for (int v : palettes) {
            String due = "" + (v & 3) + (v >> 2 & 3) + (v >> 4 & 3) + (v >> 6);
            Check.put(x, BGP, v);
            shows("BGP " + v, due + due, x, 0, 0);
        }
        Check.put(x, BGP, 0);
        Check.put(x, 0xFF48, 0x6C);
        Check.put(x, 0xFF49, 0x9C);
        sprite(x, 0, 16, 8, 4, 0x0F);
        shows("OBP without flags 16", "03210321", x, 0, 0);
        sprite(x, 0, 16, 8, 4, 0x10);
        shows("OBP with flags 16", "03120312", x, 0, 0);
    }

    // "without LCDC's bit 7 all are 0"
    private static void screenIsOff() {
        TileConsole x = painted(0x7F);
        Check.put(x, BGP, 0xFF);
        Check.put(x, 0x9800, 1);
        sprite(x, 0, 16, 8, 3, 0);
        Check.equal("off", 0, x.row(0));
        shows("off", "00000000", x, 0, 0);
        Check.put(x, LCDC, 0x80);
        Check.equal("bit 7 alone", 480, x.row(0));
    }
}
