/**
 * The document once more, written down apart from the class and as plainly as can be, sentence by sentence:
 * ModelTest holds the class against it. It makes no use of time or room sparingly.
 */
final class Model {
    private static final int Z = 128;
    private static final int N = 64;
    private static final int H = 32;
    private static final int C = 16;

    private final int[][] romBank = new int[8][1024];
    private final int[][] ramBank = new int[4][256];
    private boolean isIn;
    private int kind;
    private boolean ramOn;
    private int bankA;
    private int bankB;
    private int mode;

    private int[] video;
    private int[] work;
    private int[] sprites;
    private int[] high;
    private int[] port;
    private int[] made;
    private int keysDown;

    private int a;
    private int b;
    private int c;
    private int d;
    private int e;
    private int h;
    private int l;
    private boolean fz;
    private boolean fn;
    private boolean fh;
    private boolean fc;
    private int sp;
    private int pc;
    private boolean ime;
    private boolean imeSoon;
    private boolean halts;
    private boolean isLocked;

    private int s;
    private int dot;
    private int ly;
    private boolean wasSignal;
    private long cycles;
    private int done;
    private int taken;
    private int frames;
    private int spent;

    Model() {
        reset();
    }

    private void reset() {
        ramOn = false;
        bankA = 1;
        bankB = 0;
        mode = 0;
        video = new int[8192];
        work = new int[1024];
        sprites = new int[160];
        high = new int[127];
        port = new int[256];
        made = new int[160];
        port[0x40] = 0x91;
        port[0x47] = 0xFC;
        port[0x0F] = 1;
        a = 1;
        setF(0xB0);
        setWord(0, 0x13);
        setWord(1, 0xD8);
        setWord(2, 0x14D);
        sp = 0xFFFE;
        pc = 0x100;
        ime = false;
        imeSoon = false;
        halts = false;
        isLocked = false;
        s = 0;
        dot = 0;
        ly = 0;
        wasSignal = false;
        cycles = 0;
        done = 0;
        taken = 0;
        frames = 0;
    }

    int rom(int bank, int at, int n, long w) {
        if (n < 1 || n > 8 || bank < 0 || bank > 7) {
            throw new IllegalArgumentException();
        }
        if (at < 0 || at > 1024 || at + n > 1024) {
            throw new IndexOutOfBoundsException();
        }
        for (int i = 0; i < n; i++) {
            romBank[bank][at + i] = (int) (w >> 8 * i & 255);
        }
        return n;
    }

    int insert(int wanted) {
        if (wanted < 0 || wanted > 3) {
            throw new IllegalArgumentException();
        }
        int x = 0;
        for (int at = 0x134; at <= 0x14C; at++) {
            x = x - romBank[0][at] - 1;
        }
        if ((x & 255) != romBank[0][0x14D]) {
            throw new IllegalStateException();
        }
        isIn = true;
        kind = wanted;
        reset();
        return 1;
    }

    int run(int n) {
        if (n < 1 || n > 100) {
            throw new IllegalArgumentException();
        }
        if (!isIn) {
            throw new IllegalStateException();
        }
        if (isLocked) {
            throw new UnsupportedOperationException();
        }
        int sum = 0;
        for (int i = 0; i < n; i++) {
            int time = step();
            if (isLocked) {
                throw new UnsupportedOperationException();
            }
            sum += time;
            for (int k = 0; k < time; k++) {
                cycle();
            }
        }
        return sum;
    }

    int set(int k, int v) {
        int was = register(k);
        switch (k) {
            case 0 -> a = v & 255;
            case 1 -> setF(v & 255);
            case 2 -> b = v & 255;
            case 3 -> c = v & 255;
            case 4 -> d = v & 255;
            case 5 -> e = v & 255;
            case 6 -> h = v & 255;
            case 7 -> l = v & 255;
            case 8 -> sp = v & 0xFFFF;
            default -> pc = v & 0xFFFF;
        }
        return was;
    }

    int register(int k) {
        if (k < 0 || k > 9) {
            throw new IllegalArgumentException();
        }
        int[] all = {a, f(), b, c, d, e, h, l, sp, pc};
        return all[k];
    }

    int read(int address) {
        if (address < 0 || address > 0xFFFF) {
            throw new IllegalArgumentException();
        }
        return get(address);
    }

    int write(int address, int n, long w) {
        if (n < 1 || n > 8 || address < 0 || address > 0xFFFF || address + n - 1 > 0xFFFF) {
            throw new IllegalArgumentException();
        }
        for (int i = 0; i < n; i++) {
            put(address + i, (int) (w >> 8 * i & 255));
        }
        return n;
    }

    int keys(int mask) {
        if (mask < 0 || mask > 255) {
            throw new IllegalArgumentException();
        }
        int was = keysDown;
        for (int key = 0; key < 8; key++) {
            if ((mask >> key & 1) == 1 && (was >> key & 1) == 0) {
                port[0x0F] |= 16;
            }
        }
        keysDown = mask;
        return was;
    }

    int row(int y) {
        if (y < 0 || y > 143) {
            throw new IllegalArgumentException();
        }
        int sum = 0;
        for (int x = 0; x < 160; x++) {
            made[x] = bit(port[0x40], 7) ? pixelAt(x, y) : 0;
            sum += made[x];
        }
        return sum;
    }

    int pixel(int x) {
        if (x < 0 || x > 159) {
            throw new IndexOutOfBoundsException();
        }
        return made[x];
    }

    int count(int what) {
        if (what < 0 || what > 8) {
            throw new IllegalArgumentException();
        }
        if (what >= 5 && what <= 7 && !isIn) {
            return 0;
        }
        int[] all = {(int) cycles, done, ime ? 1 : 0, halts ? 1 : 0, isLocked ? 1 : 0, highBank(), ramBankNow(), isOn() ? 1 : 0, taken};
        return all[what];
    }

    double speed() {
        if (cycles == 0) {
            throw new ArithmeticException();
        }
        return 1048576.0 / cycles * frames;
    }

    private static boolean bit(int v, int number) {
        return (v >> number) % 2 == 1;
    }

    // THE CARTRIDGE

    private int highBank() {
        return kind == 0 ? 1 : bankA % 8;
    }

    private int ramBankNow() {
        return kind == 1 ? (mode == 1 ? bankB : 0) : kind == 3 ? bankB : 0;
    }

    private boolean isOn() {
        return isIn && (kind == 0 || ramOn);
    }

    private void control(int address, int v) {
        if (!isIn || kind == 0) {
            return;
        }
        int area = address / 0x1000;
        if (kind == 2) {
            if (area < 4 && !bit(address, 8)) {
                ramOn = v % 16 == 10;
            } else if (area < 4) {
                bankA = v % 16 == 0 ? 1 : v % 16;
            }
        } else if (area < 2) {
            ramOn = v % 16 == 10;
        } else if (kind == 1 && area < 4) {
            bankA = v % 32 == 0 ? 1 : v % 32;
        } else if (area == 2) {
            bankA = bankA / 256 * 256 + v;
        } else if (area == 3) {
            bankA = bankA % 256 + v % 2 * 256;
        } else if (area < 6) {
            bankB = v % 4;
        } else if (kind == 1) {
            mode = v % 2;
        }
    }

    // ADDRESSES

    private int get(int address) {
        if (address < 0x4000) {
            return romBank[0][address % 1024];
        } else if (address < 0x8000) {
            return romBank[highBank()][address % 1024];
        } else if (address < 0xA000) {
            return video[address - 0x8000];
        } else if (address < 0xC000) {
            if (!isOn()) {
                return 0xFF;
            }
            int v = ramBank[ramBankNow()][address % 256];
            return kind == 2 ? 0xF0 + v % 16 : v;
        } else if (address < 0xFE00) {
            return work[address % 1024];
        } else if (address < 0xFEA0) {
            return sprites[address - 0xFE00];
        } else if (address < 0xFF00) {
            return 0xFF;
        } else if (address < 0xFF80 || address == 0xFFFF) {
            return getPort(address - 0xFF00);
        }
        return high[address - 0xFF80];
    }

    private void put(int address, int v) {
        if (address < 0x8000) {
            control(address, v);
        } else if (address < 0xA000) {
            video[address - 0x8000] = v;
        } else if (address < 0xC000) {
            if (isOn()) {
                ramBank[ramBankNow()][address % 256] = kind == 2 ? v % 16 : v;
            }
        } else if (address < 0xFE00) {
            work[address % 1024] = v;
        } else if (address < 0xFEA0) {
            sprites[address - 0xFE00] = v;
        } else if (address < 0xFF00) {
            return;
        } else if (address < 0xFF80 || address == 0xFFFF) {
            putPort(address - 0xFF00, v);
        } else {
            high[address - 0xFF80] = v;
        }
    }

    // PORTS

    private int state() {
        if (!bit(port[0x40], 7)) {
            return 0;
        }
        return ly >= 144 ? 1 : dot < 20 ? 2 : dot < 63 ? 3 : 0;
    }

    private int getPort(int p) {
        if (p == 0x00) {
            int v = 0xCF + port[0] % 64 / 16 * 16;
            for (int key = 0; key < 8; key++) {
                if (bit(keysDown, key) && !bit(port[0], key < 4 ? 4 : 5) && bit(v, key % 4)) {
                    v -= 1 << key % 4;
                }
            }
            return v;
        } else if (p == 0x04) {
            return s / 64 % 256;
        } else if (p == 0x07) {
            return 0xF8 + port[p] % 8;
        } else if (p == 0x0F) {
            return 0xE0 + port[p] % 32;
        } else if (p == 0x41) {
            return 0x80 + port[p] % 128 / 8 * 8 + (ly == port[0x45] ? 4 : 0) + state();
        } else if (p == 0x44) {
            return ly;
        } else if (p == 0x05 || p == 0x06 || p >= 0x40 && p <= 0x4B || p == 0xFF) {
            return port[p];
        }
        return 0xFF;
    }

    private void putPort(int p, int v) {
        if (p == 0x04) {
            s = 0;
        } else if (p != 0x44) {
            port[p] = v;
        }
        if (p == 0x40 && v < 128) {
            dot = 0;
            ly = 0;
        }
        if (p == 0x46) {
            for (int i = 0; i < 160; i++) {
                sprites[i] = get(256 * v + i);
            }
        }
    }

    private void cycle() {
        cycles++;
        s = s == 0xFFFF ? 0 : s + 1;
        int[] multiples = {256, 4, 16, 64};
        if (bit(port[7], 2) && s % multiples[port[7] % 4] == 0) {
            port[5]++;
            if (port[5] == 256) {
                port[5] = port[6];
                port[0x0F] |= 4;
            }
        }
        boolean shown = bit(port[0x40], 7);
        if (shown) {
            dot++;
            if (dot == 114) {
                dot = 0;
                ly++;
                if (ly == 154) {
                    ly = 0;
                }
                if (ly == 144) {
                    port[0x0F] |= 1;
                    frames++;
                }
            }
        }
        int stat = port[0x41];
        boolean signal = bit(stat, 6) && ly == port[0x45];
        signal |= bit(stat, 5) && state() == 2;
        signal |= bit(stat, 4) && state() == 1;
        signal |= bit(stat, 3) && state() == 0;
        signal &= shown;
        if (signal && !wasSignal) {
            port[0x0F] |= 2;
        }
        wasSignal = signal;
    }

    // REGISTERS

    private int f() {
        return (fz ? Z : 0) + (fn ? N : 0) + (fh ? H : 0) + (fc ? C : 0);
    }

    private void setF(int v) {
        flags(bit(v, 7), bit(v, 6), bit(v, 5), bit(v, 4));
    }

    private void flags(boolean z, boolean n, boolean half, boolean carry) {
        fz = z;
        fn = n;
        fh = half;
        fc = carry;
    }

    private int word(int w) {
        int[] all = {b * 256 + c, d * 256 + e, h * 256 + l, sp};
        return all[w];
    }

    private void setWord(int w, int value) {
        int v = value & 0xFFFF;
        if (w == 0) {
            b = v / 256;
            c = v % 256;
        } else if (w == 1) {
            d = v / 256;
            e = v % 256;
        } else if (w == 2) {
            h = v / 256;
            l = v % 256;
        } else {
            sp = v;
        }
    }

    private int octet(int r) {
        if (r == 6) {
            return load(word(2));
        }
        int[] all = {b, c, d, e, h, l, 0, a};
        return all[r];
    }

    private void setOctet(int r, int v) {
        switch (r) {
            case 0 -> b = v;
            case 1 -> c = v;
            case 2 -> d = v;
            case 3 -> e = v;
            case 4 -> h = v;
            case 5 -> l = v;
            case 6 -> save(word(2), v);
            default -> a = v;
        }
    }

    // Each OCTET that the processor reads or writes is one CYCLE.

    private int load(int address) {
        spent++;
        return get(address & 0xFFFF);
    }

    private void save(int address, int v) {
        spent++;
        put(address & 0xFFFF, v);
    }

    private int next() {
        int v = load(pc);
        pc = pc + 1 & 0xFFFF;
        return v;
    }

    private int nextWord() {
        int low = next();
        return low + 256 * next();
    }

    private void push(int v) {
        sp = sp - 1 & 0xFFFF;
        save(sp, v / 256);
        sp = sp - 1 & 0xFFFF;
        save(sp, v % 256);
    }

    private int pop() {
        int low = load(sp);
        sp = sp + 1 & 0xFFFF;
        int upper = load(sp);
        sp = sp + 1 & 0xFFFF;
        return low + 256 * upper;
    }

    private boolean holds(int cc) {
        return cc == 0 ? !fz : cc == 1 ? fz : cc == 2 ? !fc : fc;
    }

    private static int signed(int v) {
        return v >= 0x80 ? v - 256 : v;
    }

    private int step() {
        int waiting = port[0xFF] & port[0x0F] & 31;
        if (waiting != 0) {
            halts = false;
        }
        if (waiting != 0 && ime) {
            int number = Integer.numberOfTrailingZeros(waiting);
            ime = false;
            port[0x0F] &= ~(1 << number);
            push(pc);
            pc = 0x40 + 8 * number;
            taken++;
            done++;
            return 5;
        }
        if (halts) {
            return 1;
        }
        boolean soon = imeSoon;
        imeSoon = false;
        spent = 0;
        int i = next();
        instruction(i);
        if (soon && i != 0xF3) {
            ime = true;
            imeSoon = false;
        }
        if (!isLocked) {
            done++;
        }
        return isLocked ? 0 : spent;
    }

    private void instruction(int i) {
        int x = i / 64;
        int y = i / 8 % 8;
        int z = i % 8;
        if (x == 0) {
            low(y, z);
        } else if (i == 0x76) {
            halts = true;
        } else if (x == 1) {
            setOctet(y, octet(z));
        } else if (x == 2) {
            combine(y, octet(z));
        } else {
            upper(i, y, z);
        }
    }

    private void low(int y, int z) {
        int p = y / 2;
        boolean q = y % 2 == 1;
        if (z == 0 && y == 1) {
            int nn = nextWord();
            save(nn, sp % 256);
            save(nn + 1, sp / 256);
        } else if (z == 0 && y == 2) {
            next();
            s = 0;
        } else if (z == 0 && y >= 3) {
            int by = signed(next());
            if (y == 3 || holds(y - 4)) {
                pc = pc + by & 0xFFFF;
                spent++;
            }
        } else if (z == 1 && !q) {
            setWord(p, nextWord());
        } else if (z == 1) {
            int v = word(p);
            flags(fz, false, word(2) % 0x1000 + v % 0x1000 >= 0x1000, word(2) + v >= 0x10000);
            setWord(2, word(2) + v);
            spent++;
        } else if (z == 2) {
            int address = p < 2 ? word(p) : word(2);
            if (q) {
                a = load(address);
            } else {
                save(address, a);
            }
            setWord(2, word(2) + (p == 2 ? 1 : p == 3 ? -1 : 0));
        } else if (z == 3) {
            setWord(p, word(p) + (q ? -1 : 1));
            spent++;
        } else if (z == 4) {
            int v = (octet(y) + 1) % 256;
            flags(v == 0, false, v % 16 == 0, fc);
            setOctet(y, v);
        } else if (z == 5) {
            int v = (octet(y) + 255) % 256;
            flags(v == 0, true, v % 16 == 15, fc);
            setOctet(y, v);
        } else if (z == 6) {
            setOctet(y, next());
        } else if (z == 7 && y < 4) {
            a = shift(y, a);
            fz = false;
        } else if (z == 7 && y == 4) {
            decimal();
        } else if (z == 7 && y == 5) {
            a = 255 - a;
            flags(fz, true, true, fc);
        } else if (z == 7) {
            flags(fz, false, false, y == 6 || !fc);
        }
    }

    private void decimal() {
        int by = 0;
        if (!fn) {
            if (fh || a % 16 > 9) {
                by += 6;
            }
            if (fc || a > 0x99) {
                by += 0x60;
                fc = true;
            }
        } else {
            by -= fc ? 0x60 : 0;
            by -= fh ? 6 : 0;
        }
        a = a + by & 255;
        fz = a == 0;
        fh = false;
    }

    private int shift(int y, int v) {
        int old = fc ? 1 : 0;
        boolean goesLeft = y == 0 || y == 2 || y == 4;
        int out = goesLeft ? v / 128 : y == 6 ? 0 : v % 2;
        int comes = y < 2 ? out : y < 4 ? old : y == 5 ? v / 128 : 0;
        int now = y == 6 ? v % 16 * 16 + v / 16 : goesLeft ? v * 2 % 256 + comes : v / 2 + 128 * comes;
        flags(now == 0, false, false, out == 1);
        return now;
    }

    private void combine(int y, int v) {
        int extra = (y == 1 || y == 3) && fc ? 1 : 0;
        if (y < 2) {
            int sum = a + v + extra;
            flags(sum % 256 == 0, false, a % 16 + v % 16 + extra > 15, sum > 255);
            a = sum % 256;
        } else if (y == 4 || y == 5 || y == 6) {
            a = y == 4 ? a & v : y == 5 ? a ^ v : a | v;
            flags(a == 0, false, y == 4, false);
        } else {
            int rest = a - v - extra;
            flags((rest & 255) == 0, true, a % 16 - v % 16 - extra < 0, rest < 0);
            a = y == 7 ? a : rest & 255;
        }
    }

    private void upper(int i, int y, int z) {
        int p = y / 2;
        boolean q = y % 2 == 1;
        if (z == 0) {
            upperZero(y);
        } else if (z == 1 && !q) {
            int v = pop();
            if (p == 3) {
                a = v / 256;
                setF(v % 256);
            } else {
                setWord(p, v);
            }
        } else if (z == 1 && p < 2) {
            pc = pop();
            spent++;
            ime |= p == 1;
        } else if (i == 0xE9) {
            pc = word(2);
        } else if (i == 0xF9) {
            sp = word(2);
            spent++;
        } else if (z == 2 && y < 4 || i == 0xC3) {
            int nn = nextWord();
            if (i == 0xC3 || holds(y)) {
                pc = nn;
                spent++;
            }
        } else if (z == 2) {
            int address = q ? nextWord() : 0xFF00 + c;
            if (y < 6) {
                save(address, a);
            } else {
                a = load(address);
            }
        } else if (i == 0xCB) {
            prefixed(next());
        } else if (i == 0xF3) {
            ime = false;
        } else if (i == 0xFB) {
            imeSoon = !ime;
        } else if (z == 4 && y < 4 || i == 0xCD) {
            int nn = nextWord();
            if (i == 0xCD || holds(y)) {
                push(pc);
                pc = nn;
                spent++;
            }
        } else if (z == 5 && !q) {
            push(p == 3 ? 256 * a + f() : word(p));
            spent++;
        } else if (z == 6) {
            combine(y, next());
        } else if (z == 7) {
            push(pc);
            pc = 8 * y;
            spent++;
        } else {
            isLocked = true;
        }
    }

    private void upperZero(int y) {
        if (y < 4) {
            spent++;
            if (holds(y)) {
                pc = pop();
                spent++;
            }
            return;
        }
        int n = next();
        if (y == 4) {
            save(0xFF00 + n, a);
        } else if (y == 6) {
            a = load(0xFF00 + n);
        } else {
            flags(false, false, sp % 16 + n % 16 > 15, sp % 256 + n > 255);
            setWord(y == 5 ? 3 : 2, sp + signed(n));
            spent += y == 5 ? 2 : 1;
        }
    }

    private void prefixed(int i) {
        int x = i / 64;
        int y = i / 8 % 8;
        int v = octet(i % 8);
        if (x == 0) {
            setOctet(i % 8, shift(y, v));
        } else if (x == 1) {
            flags(!bit(v, y), false, true, fc);
        } else {
            int without = bit(v, y) ? v - (1 << y) : v;
            setOctet(i % 8, x == 2 ? without : without + (1 << y));
        }
    }

    // ROW

    private int numberIn(int address, int line, int column) {
        int first = video[address - 0x8000 + 2 * line];
        int second = video[address - 0x8000 + 2 * line + 1];
        return (bit(first, 7 - column) ? 1 : 0) + (bit(second, 7 - column) ? 2 : 0);
    }

    private int background(int x, int y) {
        int lcdc = port[0x40];
        if (!bit(lcdc, 0)) {
            return 0;
        }
        boolean window = bit(lcdc, 5) && y >= port[0x4A] && x + 7 >= port[0x4B];
        int column = window ? x + 7 - port[0x4B] : (x + port[0x43]) % 256;
        int line = window ? y - port[0x4A] : (y + port[0x42]) % 256;
        int map = bit(lcdc, window ? 6 : 3) ? 0x9C00 : 0x9800;
        int t = video[map + 32 * (line / 8) + column / 8 - 0x8000];
        return numberIn(bit(lcdc, 4) ? 0x8000 + 16 * t : 0x9000 + 16 * signed(t), line % 8, column % 8);
    }

    private int pixelAt(int x, int y) {
        int lcdc = port[0x40];
        int height = bit(lcdc, 2) ? 16 : 8;
        int number = 0;
        int left = 256;
        int flags = 0;
        int onRow = 0;
        for (int i = 0; i < 160 && bit(lcdc, 1); i += 4) {
            int line = y - (sprites[i] - 16);
            int column = x - (sprites[i + 1] - 8);
            if (line < 0 || line > height - 1 || ++onRow > 10 || column < 0 || column > 7) {
                continue;
            }
            int tile = height == 16 ? sprites[i + 2] / 2 * 2 : sprites[i + 2];
            line = bit(sprites[i + 3], 6) ? height - 1 - line : line;
            column = bit(sprites[i + 3], 5) ? 7 - column : column;
            int here = numberIn(0x8000 + 16 * (tile + line / 8), line % 8, column);
            if (here != 0 && sprites[i + 1] < left) {
                number = here;
                left = sprites[i + 1];
                flags = sprites[i + 3];
            }
        }
        int behind = background(x, y);
        if (number != 0 && !(bit(flags, 7) && behind != 0)) {
            return port[bit(flags, 4) ? 0x49 : 0x48] >> 2 * number & 3;
        }
        return port[0x47] >> 2 * behind & 3;
    }
}
