/** What each instruction does with registers, flags and memory. */
public final class InstructionTest {
    private static final int Z = 128;
    private static final int N = 64;
    private static final int H = 32;
    private static final int C = 16;
    private static final int HL = 0xC220;
    private static final int[] FACE = {Check.B, Check.C, Check.D, Check.E, Check.H, Check.L, -1, Check.A};

    // A console is used for at most 512 calls: this one is made anew in time.
    private static TileConsole shared;
    private static int uses;

    public static void main(String[] args) {
        combinations();
        combinationsOfAllOperands();
        increments();
        decimal();
        shiftsAndBits();
        accumulatorShifts();
        flagInstructions();
        copies();
        immediateOctets();
        words();
        addToHl();
        throughPairs();
        stackPointerSums();
        pushAndPop();
        jumps();
        callsAndReturns();
        upperPage();
        wrapping();
        Check.finish("InstructionTest");
    }

    private static TileConsole bench(int calls) {
        uses += calls;
        if (shared == null || uses > 480) {
            shared = Check.program(0);
            uses = 20 + calls;
        }
        return shared;
    }

    /** Runs one program of at most eight octets with A and F set. */
    private static TileConsole one(int a, int f, long octets) {
        TileConsole x = bench(16);
        x.write(Check.WORK, 8, octets);
        x.set(Check.PC, Check.WORK);
        x.set(Check.A, a);
        x.set(Check.F, f);
        Check.setPair(x, Check.H, HL);
        return x;
    }

    private static void after(String what, TileConsole x, int a, int f) {
        Check.equal(what + ": A", a, x.register(Check.A));
        Check.equal(what + ": F", f, x.register(Check.F));
    }

    private static int low(int v) {
        return v & 15;
    }

    /** A and F behind the operation, as A * 256 + F. */
    private static int combined(int y, int a, int v, int carry) {
        int c = y == 1 || y == 3 ? carry : 0;
        int result;
        int f = 0;
        if (y < 2) {
            result = a + v + c;
            f |= low(a) + low(v) + c >= 16 ? H : 0;
            f |= result >= 256 ? C : 0;
        } else if (y == 2 || y == 3 || y == 7) {
            result = a - v - c;
            f |= N;
            f |= low(a) < low(v) + c ? H : 0;
            f |= a < v + c ? C : 0;
        } else {
            result = y == 4 ? a & v : y == 5 ? a ^ v : a | v;
            f |= y == 4 ? H : 0;
        }
        f |= result % 256 == 0 ? Z : 0;
        return (y == 7 ? a : result & 255) * 256 + f;
    }

    private static void combinations() {
        for (int y = 0; y < 8; y++) {
            for (int a = 0; a < 256; a++) {
                for (int v = 0; v < 256; v += a % 3 == 0 ? 1 : 7) {
                    for (int f = 0; f < 256; f += 0x90) {
                        TileConsole x = one(a, f, 0xC6 + 8 * y | v << 8);
                        x.run(1);
                        int due = combined(y, a, v, f >> 4 & 1);
                        after("A by " + y + ": " + a + ", " + v + ", F " + f, x, due >> 8, due & 255);
                    }
                }
            }
        }
    }

    private static void combinationsOfAllOperands() {
        for (int y = 0; y < 8; y++) {
            for (int z = 0; z < 8; z++) {
                TileConsole x = Check.program(0x80 + 8 * y + z);
                fill(x);
                int v = z == 4 ? HL >> 8 : z == 5 ? HL & 255 : z == 6 ? 0x66 : z == 7 ? 0x97 : 0x10 + 3 * z;
                x.run(1);
                int due = combined(y, 0x97, v, 1);
                after("A by " + y + " with r " + z, x, due >> 8, due & 255);
            }
        }
    }

    /** r 0 to 3 are 0x10 + 3 r, HL points to an octet 0x66, A is 0x97, F all 1. */
    private static void fill(TileConsole x) {
        for (int z = 0; z < 4; z++) {
            x.set(FACE[z], 0x10 + 3 * z);
        }
        Check.setPair(x, Check.H, HL);
        Check.put(x, HL, 0x66);
        x.set(Check.A, 0x97);
        x.set(Check.F, 0xF0);
    }

    private static int octet(TileConsole x, int r) {
        return r == 6 ? x.read(HL) : x.register(FACE[r]);
    }

    private static void increments() {
        for (int v = 0; v < 256; v++) {
            for (int f = 0; f < 256; f += 16) {
                TileConsole x = one(v, f, 0x3C);
                x.run(1);
                int up = v == 255 ? 0 : v + 1;
                after("A + 1 of " + v, x, up, f & C | (up == 0 ? Z : 0) | (up % 16 == 0 ? H : 0));
                x = one(v, f, 0x3D);
                x.run(1);
                int down = v == 0 ? 255 : v - 1;
                after("A - 1 of " + v, x, down, f & C | N | (down == 0 ? Z : 0) | (v % 16 == 0 ? H : 0));
            }
        }
        for (int r = 0; r < 8; r++) {
            TileConsole x = Check.program(0x04 + 8 * r);
            fill(x);
            int was = octet(x, r);
            int hl = Check.pair(x, Check.H);
            x.run(1);
            if (r != 4 && r != 5) {
                Check.equal("r + 1, r " + r, was + 1, octet(x, r));
                Check.equal("HL stays", hl, Check.pair(x, Check.H));
            } else {
                Check.equal("r + 1, r " + r, hl + (r == 4 ? 256 : 1), Check.pair(x, Check.H));
            }
            x = Check.program(0x05 + 8 * r);
            fill(x);
            x.run(1);
            int gone = r == 4 ? x.register(Check.H) : r == 5 ? x.register(Check.L) : octet(x, r);
            Check.equal("r - 1, r " + r, was - 1, gone);
        }
    }

    // On two decimal digits DAA mends a sum and a difference; the rest of A and F is as the document counts.
    private static void decimal() {
        for (int a = 0; a < 100; a++) {
            for (int b = 0; b < 100; b += 3) {
                int first = a / 10 * 16 + a % 10;
                int second = b / 10 * 16 + b % 10;
                TileConsole x = one(first, 0, 0xC6 | second << 8 | 0x27 << 16);
                x.run(2);
                int sum = (a + b) % 100;
                after("decimal " + a + " + " + b, x, sum / 10 * 16 + sum % 10, (sum == 0 ? Z : 0) | (a + b > 99 ? C : 0));
                x = one(first, 0, 0xD6 | second << 8 | 0x27 << 16);
                x.run(2);
                int rest = (a - b + 100) % 100;
                after("decimal " + a + " - " + b, x, rest / 10 * 16 + rest % 10, N | (rest == 0 ? Z : 0) | (a < b ? C : 0));
            }
        }
        for (int a = 0; a < 256; a++) {
            for (int f = 0; f < 256; f += 16) {
                TileConsole x = one(a, f, 0x27);
                x.run(1);
                int due = adjusted(a, f);
                after("DAA of " + a + ", F " + f, x, due >> 8, due & 255);
            }
        }
    }

    private static int adjusted(int a, int f) {
        int result = a;
        int flags = f & N;
        if ((f & N) == 0) {
            if ((f & H) != 0 || low(a) > 9) {
                result += 0x06;
            }
            if ((f & C) != 0 || a > 0x99) {
                result += 0x60;
                flags |= C;
            }
        } else {
            if ((f & H) != 0) {
                result -= 0x06;
            }
            if ((f & C) != 0) {
                result -= 0x60;
                flags |= C;
            }
        }
        result &= 255;
        return result * 256 + (flags | (result == 0 ? Z : 0));
    }

    /** The octet and the bit that goes out, as octet + 256 * bit, by strings of bits. */
    private static int moved(int y, int v, int carry) {
        String bits = Integer.toBinaryString(256 + v).substring(1);
        char c = carry == 1 ? '1' : '0';
        char top = bits.charAt(0);
        char end = bits.charAt(7);
        String[] now = {
            bits.substring(1) + top, end + bits.substring(0, 7),
            bits.substring(1) + c, c + bits.substring(0, 7),
            bits.substring(1) + '0', top + bits.substring(0, 7),
            bits.substring(4) + bits.substring(0, 4), '0' + bits.substring(0, 7),
        };
        char out = y == 6 ? '0' : y == 0 || y == 2 || y == 4 ? top : end;
        return Integer.parseInt(now[y], 2) + (out == '1' ? 256 : 0);
    }

    private static void shiftsAndBits() {
        for (int v = 0; v < 256; v++) {
            for (int y = 0; y < 8; y++) {
                for (int f = 0; f < 256; f += 0x30) {
                    TileConsole x = one(v, f, 0xCB | 8 * y + 7 << 8);
                    x.run(1);
                    int due = moved(y, v, f >> 4 & 1);
                    int flags = (due % 256 == 0 ? Z : 0) | (due >= 256 ? C : 0);
                    after("shift " + y + " of " + v + ", F " + f, x, due % 256, flags);
                }
                TileConsole x = one(v, C | N, 0xCB | 0x47 + 8 * y << 8);
                x.run(1);
                after("bit " + y + " of " + v, x, v, C | H | ((v >> y) % 2 == 0 ? Z : 0));
                x = one(v, Z | N, 0xCB | 0x47 + 8 * y << 8);
                x.run(1);
                after("bit " + y + " of " + v + ", C 0", x, v, H | ((v >> y) % 2 == 0 ? Z : 0));
                x = one(v, 0xA0, 0xCB | 0x87 + 8 * y << 8);
                x.run(1);
                after("bit " + y + " of " + v + " is 0", x, v - ((v >> y) % 2 << y), 0xA0);
                x = one(v, 0x50, 0xCB | 0xC7 + 8 * y << 8);
                x.run(1);
                after("bit " + y + " of " + v + " is 1", x, v + ((v >> y) % 2 == 0 ? 1 << y : 0), 0x50);
            }
        }
        prefixedOperands();
    }

    private static void prefixedOperands() {
        for (int z = 0; z < 8; z++) {
            if (z == 4 || z == 5) {
                continue;
            }
            TileConsole x = Check.program(0xCB, 0x30 + z, 0xCB, 0x80 + z, 0xCB, 0xC0 + z);
            fill(x);
            int was = octet(x, z);
            x.run(1);
            int swapped = was % 16 * 16 + was / 16;
            Check.equal("SWAP of r " + z, swapped, octet(x, z));
            x.run(1);
            Check.equal("bit 0 is 0 in r " + z, swapped & 254, octet(x, z));
            x.run(1);
            Check.equal("bit 0 is 1 in r " + z, swapped | 1, octet(x, z));
        }
        TileConsole x = Check.program(0xCB, 0x34, 0xCB, 0x35);
        Check.setPair(x, Check.H, 0x1234);
        x.run(2);
        Check.equal("SWAP of H and L", 0x2143, Check.pair(x, Check.H));
    }

    private static void accumulatorShifts() {
        for (int v = 0; v < 256; v++) {
            for (int y = 0; y < 4; y++) {
                for (int f = 0; f < 256; f += 0x30) {
                    TileConsole x = one(v, f, 8 * y + 7);
                    x.run(1);
                    int due = moved(y, v, f >> 4 & 1);
                    after("A's shift " + y + " of " + v, x, due % 256, due >= 256 ? C : 0);
                }
            }
        }
    }

    private static void flagInstructions() {
        for (int f = 0; f < 256; f += 16) {
            TileConsole x = one(0x3A, f, 0x2F);
            x.run(1);
            after("CPL, F " + f, x, 0xC5, f | N | H);
            x = one(0x3A, f, 0x37);
            x.run(1);
            after("SCF, F " + f, x, 0x3A, f & Z | C);
            x = one(0x3A, f, 0x3F);
            x.run(1);
            after("CCF, F " + f, x, 0x3A, f & Z | ((f & C) == 0 ? C : 0));
        }
    }

    private static void copies() {
        for (int y = 0; y < 8; y++) {
            for (int z = 0; z < 8; z++) {
                if (y == 6 && z == 6) {
                    continue;
                }
                TileConsole x = Check.program(0x40 + 8 * y + z);
                fill(x);
                int v = octet(x, z);
                x.run(1);
                Check.equal("r " + y + " is r " + z, v, y == 6 ? x.read(HL) : x.register(FACE[y]));
                Check.equal("F stays", 0xF0, x.register(Check.F));
                for (int r = 0; r < 8; r++) {
                    if (r != y && r < 4) {
                        Check.equal("r " + r + " stays", 0x10 + 3 * r, octet(x, r));
                    }
                }
            }
        }
    }

    private static void immediateOctets() {
        for (int r = 0; r < 8; r++) {
            TileConsole x = Check.program(0x06 + 8 * r, 0xE7);
            fill(x);
            x.run(1);
            Check.equal("r " + r + " is n", 0xE7, octet(x, r));
            Check.equal("F stays", 0xF0, x.register(Check.F));
        }
    }

    private static int wordOf(TileConsole x, int w) {
        return w == 3 ? x.register(Check.SP) : Check.pair(x, Check.B + 2 * w);
    }

    private static void words() {
        for (int w = 0; w < 4; w++) {
            TileConsole x = Check.program(0x01 + 16 * w, 0x00, 0x00, 0x0B + 16 * w, 0x03 + 16 * w, 0x03 + 16 * w);
            x.set(Check.F, 0xF0);
            x.run(1);
            Check.equal("w " + w + " is 0", 0, wordOf(x, w));
            x.run(1);
            Check.equal("w " + w + " - 1", 0xFFFF, wordOf(x, w));
            x.run(1);
            Check.equal("w " + w + " + 1", 0, wordOf(x, w));
            x.run(1);
            Check.equal("w " + w + " + 1 again", 1, wordOf(x, w));
            x = Check.program(0x01 + 16 * w, 0xFF, 0x12, 0x03 + 16 * w, 0x0B + 16 * w);
            x.set(Check.F, 0);
            x.run(1);
            Check.equal("w " + w + " is nn", 0x12FF, wordOf(x, w));
            x.run(1);
            Check.equal("w " + w + " carries", 0x1300, wordOf(x, w));
            x.run(1);
            Check.equal("w " + w + " borrows", 0x12FF, wordOf(x, w));
            Check.equal("F stays", 0, x.register(Check.F));
        }
        TileConsole x = Check.program(0x08, 0x50, 0xC1, 0x08, 0xFF, 0xC3);
        x.set(Check.SP, 0xABCD);
        x.run(2);
        Check.equal("SP to nn", 0xABCD, Check.word(x, 0xC150));
        Check.equal("SP to nn at WORK's end", 0xCD, x.read(0xC3FF));
        Check.equal("SP to nn folds", 0xAB, x.read(0xC000));
    }

    private static void addToHl() {
        int[] values = {0, 1, 0x0FFF, 0x1000, 0x0800, 0x7FFF, 0x8000, 0xF000, 0xFFFF, 0x1234, 0xABCD, 0x00FF};
        for (int hl : values) {
            for (int v : values) {
                for (int w = 0; w < 4; w++) {
                    int add = w == 2 ? hl : v;
                    int f = w % 2 == 0 ? 0xF0 : 0;
                    TileConsole x = bench(10);
                    x.write(Check.WORK, 1, 0x09 + 16 * w);
                    x.set(Check.PC, Check.WORK);
                    if (w == 3) {
                        x.set(Check.SP, v);
                    } else {
                        Check.setPair(x, Check.B + 2 * w, v);
                    }
                    Check.setPair(x, Check.H, hl);
                    x.set(Check.F, f);
                    x.run(1);
                    String what = "HL + w " + w + ": " + hl + ", " + add;
                    Check.equal(what, (hl + add) % 0x10000, Check.pair(x, Check.H));
                    int flags = f & Z | (hl % 0x1000 + add % 0x1000 >= 0x1000 ? H : 0) | (hl + add >= 0x10000 ? C : 0);
                    Check.equal(what + ": F", flags, x.register(Check.F));
                }
            }
        }
    }

    private static void throughPairs() {
        int[] changes = {0, 0, 1, -1};
        int[] starts = {0xC100, 0xC0FF, 0xC2FF, 0xC200};
        for (int p = 0; p < 4; p++) {
            TileConsole x = Check.program(0x02 + 16 * p);
            int first = Check.B + 2 * Math.min(p, 2);
            x.set(Check.A, 0x5D);
            Check.setPair(x, first, starts[p]);
            x.run(1);
            Check.equal("A to, p " + p, 0x5D, x.read(starts[p]));
            Check.equal("pair behind, p " + p, starts[p] + changes[p], Check.pair(x, first));
            Check.equal("F stays", 0xB0, x.register(Check.F));
            x = Check.program(0x0A + 16 * p);
            Check.put(x, starts[p], 0x6E);
            Check.setPair(x, first, starts[p]);
            x.run(1);
            Check.equal("A from, p " + p, 0x6E, x.register(Check.A));
            Check.equal("pair behind, p " + p, starts[p] + changes[p], Check.pair(x, first));
        }
        TileConsole x = Check.program(0x2A, 0x3A);
        Check.setPair(x, Check.H, 0xFFFF);
        x.run(1);
        Check.equal("HL + 1 comes round", 0, Check.pair(x, Check.H));
        x.run(1);
        Check.equal("HL - 1 comes round", 0xFFFF, Check.pair(x, Check.H));
    }

    private static void stackPointerSums() {
        int[] stacks = {0, 0x000F, 0x00FF, 0xFFFF, 0x1234, 0xFFF8, 0x0080, 0xC0F0};
        for (int sp : stacks) {
            for (int n = 0; n < 256; n++) {
                int e = n < 128 ? n : n - 256;
                int sum = sp + e & 0xFFFF;
                int f = (sp % 16 + n % 16 >= 16 ? H : 0) | (sp % 256 + n >= 256 ? C : 0);
                TileConsole x = one(7, 0xF0, 0xE8 | n << 8);
                x.set(Check.SP, sp);
                x.run(1);
                Check.equal("SP + e: " + sp + ", " + e, sum, x.register(Check.SP));
                Check.equal("SP + e: F", f, x.register(Check.F));
                x = one(7, 0xC0, 0xF8 | n << 8);
                x.set(Check.SP, sp);
                x.run(1);
                Check.equal("HL is SP + e: " + sp + ", " + e, sum, Check.pair(x, Check.H));
                Check.equal("HL is SP + e: F", f, x.register(Check.F));
                Check.equal("SP stays", sp, x.register(Check.SP));
            }
        }
        TileConsole x = Check.program(0xF9);
        Check.setPair(x, Check.H, 0xBEEF);
        x.run(1);
        Check.equal("SP is HL", 0xBEEF, x.register(Check.SP));
    }

    private static void pushAndPop() {
        int[] highs = {Check.B, Check.D, Check.H, Check.A};
        for (int p = 0; p < 4; p++) {
            TileConsole x = Check.program(0xC5 + 16 * p, 0xC1 + 16 * p);
            x.set(Check.SP, 0xC300);
            x.set(highs[p], 0x9A);
            x.set(highs[p] + 1, 0xB0);
            x.run(1);
            Check.equal("PUSH " + p, 0x9AB0, Check.word(x, 0xC2FE));
            Check.equal("SP behind PUSH " + p, 0xC2FE, x.register(Check.SP));
            Check.putAll(x, 0xC2FE, 0x7F, 0x65);
            x.run(1);
            Check.equal("POP " + p, p == 3 ? 0x6570 : 0x657F, Check.pair(x, highs[p]));
            Check.equal("SP behind POP " + p, 0xC300, x.register(Check.SP));
        }
        TileConsole x = Check.program(0xF5);
        x.set(Check.SP, 0);
        x.set(Check.A, 0x15);
        x.set(Check.F, 0x80);
        x.run(1);
        Check.equal("PUSH below 0: IE", 0x15, x.read(0xFFFF));
        Check.equal("PUSH below 0: HIGH", 0x80, x.read(0xFFFE));
        Check.equal("PUSH below 0: SP", 0xFFFE, x.register(Check.SP));
    }

    private static void jumps() {
        int[] es = {0, 1, 127, -128, -1, -2};
        for (int e : es) {
            TileConsole x = Check.program(0x00);
            Check.putAll(x, 0xC180, 0x18, e & 255);
            x.set(Check.PC, 0xC180);
            x.run(1);
            Check.equal("JR " + e, 0xC182 + e, x.register(Check.PC));
        }
        TileConsole x = Check.program(0xC3, 0xCD, 0xAB);
        x.run(1);
        Check.equal("JP nn", 0xABCD, x.register(Check.PC));
        x = Check.program(0xE9);
        Check.setPair(x, Check.H, 0x1357);
        x.run(1);
        Check.equal("PC is HL", 0x1357, x.register(Check.PC));
    }

    private static void callsAndReturns() {
        TileConsole x = Check.program(0xCD, 0x00, 0xC1);
        x.set(Check.SP, 0xC300);
        Check.put(x, 0xC100, 0xC9);
        x.run(1);
        Check.equal("CALL", 0xC100, x.register(Check.PC));
        Check.equal("CALL pushes", 0xC003, Check.word(x, 0xC2FE));
        Check.equal("CALL: SP", 0xC2FE, x.register(Check.SP));
        x.run(1);
        Check.equal("RET", 0xC003, x.register(Check.PC));
        Check.equal("RET: SP", 0xC300, x.register(Check.SP));
        Check.equal("RET: IME", 0, x.count(Check.IME));
        x = Check.program(0xD9);
        x.set(Check.SP, 0xC300);
        Check.putAll(x, 0xC300, 0x21, 0xC3);
        x.run(1);
        Check.equal("RETI", 0xC321, x.register(Check.PC));
        Check.equal("RETI: IME", 1, x.count(Check.IME));
        for (int y = 0; y < 8; y++) {
            x = Check.program(0xC7 + 8 * y);
            x.set(Check.SP, 0xC300);
            x.run(1);
            Check.equal("RST " + y, 8 * y, x.register(Check.PC));
            Check.equal("RST " + y + " pushes", 0xC001, Check.word(x, 0xC2FE));
        }
    }

    private static void upperPage() {
        TileConsole x = Check.program(0xE0, 0x90, 0xF0, 0x91, 0xE2, 0xF2, 0xEA, 0x45, 0xC1, 0xFA, 0x46, 0xC1);
        x.set(Check.A, 0x11);
        x.set(Check.C, 0x92);
        Check.put(x, 0xFF91, 0x22);
        Check.put(x, 0xC146, 0x33);
        x.run(1);
        Check.equal("A to 0xFF00 + n", 0x11, x.read(0xFF90));
        x.run(1);
        Check.equal("A from 0xFF00 + n", 0x22, x.register(Check.A));
        x.run(1);
        Check.equal("A to 0xFF00 + C", 0x22, x.read(0xFF92));
        Check.put(x, 0xFF92, 0x44);
        x.run(1);
        Check.equal("A from 0xFF00 + C", 0x44, x.register(Check.A));
        x.run(1);
        Check.equal("A to nn", 0x44, x.read(0xC145));
        x.run(1);
        Check.equal("A from nn", 0x33, x.register(Check.A));
        Check.equal("F stays", 0xB0, x.register(Check.F));
    }

    private static void wrapping() {
        TileConsole x = Check.program(0);
        x.rom(0, 0, 2, 0xC0AA);
        Check.put(x, 0xFFFF, 0x3E);
        x.set(Check.PC, 0xFFFF);
        x.run(1);
        Check.equal("n behind 0xFFFF", 0xAA, x.register(Check.A));
        Check.equal("PC comes round", 1, x.register(Check.PC));
        x = Check.program(0);
        Check.putAll(x, 0xFFFD, 0x00, 0x18, 0x10);
        x.set(Check.PC, 0xFFFE);
        x.run(1);
        Check.equal("JR over 0xFFFF", 0x10, x.register(Check.PC));
        x = Check.program(0xC1);
        x.rom(0, 0, 1, 0x12);
        x.set(Check.SP, 0xFFFF);
        Check.put(x, 0xFFFF, 0x34);
        x.run(1);
        Check.equal("POP over 0xFFFF", 0x1234, Check.pair(x, Check.B));
        Check.equal("SP over 0xFFFF", 1, x.register(Check.SP));
        x = Check.program(0x08, 0xFF, 0xFF);
        x.set(Check.SP, 0x0A0B);
        x.run(1);
        Check.equal("SP to 0xFFFF", 0x0B, x.read(0xFFFF));
    }
}
