import java.util.Arrays;

/** A small console of the old kind; ../shared/DOC.md says what each call does. */
public final class TileConsole {
    private final Cartridge cartridge;
    private final Ports ports;
    private final Memory memory;
    private final Screen screen;
    private final Processor processor;

    public TileConsole() {
        cartridge = new Cartridge();
        ports = new Ports();
        memory = new Memory(cartridge, ports);
        screen = new Screen(memory.video, memory.sprites, ports.octets);
        processor = new Processor(memory, ports);
        startAnew();
    }

    public int rom(int b, int at, int n, long w) throws IllegalArgumentException, IndexOutOfBoundsException {
        if (n < 1 || n > 8) {
            throw new IllegalArgumentException("n is not 1 to 8");
        }
        if (b < 0 || b >= Cartridge.ROM_BANKS) {
            throw new IllegalArgumentException("b is not 0 to 7");
        }
        if (at < 0 || at > Cartridge.ROM_SIZE - n) {
            throw new IndexOutOfBoundsException("the octets do not go into the bank");
        }
        for (int i = 0; i < n; i++) {
            cartridge.rom[b * Cartridge.ROM_SIZE + at + i] = octetOf(w, i);
        }
        return n;
    }

    public int insert(int kind) throws IllegalArgumentException, IllegalStateException {
        if (kind < Cartridge.PLAIN || kind > Cartridge.THREE) {
            throw new IllegalArgumentException("kind is not 0 to 3");
        }
        if (!cartridge.headerAgrees()) {
            throw new IllegalStateException("the header's check octet does not agree");
        }
        cartridge.in = true;
        cartridge.kind = kind;
        startAnew();
        return 1;
    }

    public int run(int n) throws IllegalArgumentException, IllegalStateException, UnsupportedOperationException {
        if (n < 1 || n > 100) {
            throw new IllegalArgumentException("n is not 1 to 100");
        }
        if (!cartridge.in) {
            throw new IllegalStateException("nothing is in");
        }
        int before = processor.cycles;
        for (int i = 0; i < n; i++) {
            if (!processor.locked) {
                processor.step();
            }
            if (processor.locked) {
                throw new UnsupportedOperationException("the processor is locked");
            }
        }
        return processor.cycles - before;
    }

    public int set(int k, int v) throws IllegalArgumentException {
        if (k < 0 || k > 9) {
            throw new IllegalArgumentException("k is not 0 to 9");
        }
        int was = processor.valueOf(k);
        processor.put(k, v);
        return was;
    }

    public int register(int k) throws IllegalArgumentException {
        if (k < 0 || k > 9) {
            throw new IllegalArgumentException("k is not 0 to 9");
        }
        return processor.valueOf(k);
    }

    public int read(int address) throws IllegalArgumentException {
        if (address < 0 || address > 0xFFFF) {
            throw new IllegalArgumentException("the address is not 0 to 0xFFFF");
        }
        return memory.load(address);
    }

    public int write(int address, int n, long w) throws IllegalArgumentException {
        if (n < 1 || n > 8) {
            throw new IllegalArgumentException("n is not 1 to 8");
        }
        if (address < 0 || address > 0x10000 - n) {
            throw new IllegalArgumentException("an address is not 0 to 0xFFFF");
        }
        for (int i = 0; i < n; i++) {
            memory.store(address + i, octetOf(w, i));
        }
        return n;
    }

    public int keys(int mask) throws IllegalArgumentException {
        if (mask < 0 || mask > 255) {
            throw new IllegalArgumentException("the mask is not 0 to 255");
        }
        return ports.press(mask);
    }

    public int row(int y) throws IllegalArgumentException {
        if (y < 0 || y >= Ports.SHOWN_ROWS) {
            throw new IllegalArgumentException("y is not 0 to 143");
        }
        return screen.make(y);
    }

    public int pixel(int x) throws IndexOutOfBoundsException {
        if (x < 0 || x >= Screen.WIDTH) {
            throw new IndexOutOfBoundsException("x is not 0 to 159");
        }
        return screen.pixels[x];
    }

    public int count(int what) throws IllegalArgumentException {
        switch (what) {
            case 0: return processor.cycles;
            case 1: return processor.done;
            case 2: return processor.ime ? 1 : 0;
            case 3: return processor.halted ? 1 : 0;
            case 4: return processor.locked ? 1 : 0;
            case 5: return cartridge.in ? cartridge.highBank : 0;
            case 6: return cartridge.in ? cartridge.ramBank : 0;
            case 7: return cartridge.on ? 1 : 0;
            case 8: return processor.taken;
            default: throw new IllegalArgumentException("what is not 0 to 8");
        }
    }

    public double speed() throws ArithmeticException {
        if (processor.cycles == 0) {
            throw new ArithmeticException("there were no cycles");
        }
        return 1048576.0 / processor.cycles * ports.frames;
    }

    private void startAnew() {
        cartridge.reset();
        ports.reset();
        memory.reset();
        screen.reset();
        processor.reset();
    }

    private static int octetOf(long w, int i) {
        return (int) (w >>> 8 * i) & 255;
    }

    /** The banks and the controller that chooses among them. */
    private static final class Cartridge {
        static final int PLAIN = 0;
        static final int ONE = 1;
        static final int TWO = 2;
        static final int THREE = 3;
        static final int ROM_BANKS = 8;
        static final int ROM_SIZE = 1024;
        static final int RAM_BANKS = 4;
        static final int RAM_SIZE = 256;
        private static final int HEADER_FIRST = 0x134;
        private static final int HEADER_CHECK = 0x14D;

        final int[] rom = new int[ROM_BANKS * ROM_SIZE];
        final int[] ram = new int[RAM_BANKS * RAM_SIZE];
        boolean in;
        int kind;
        boolean on;
        int highBank;
        int ramBank;
        private boolean enabled;
        // ONE's A, TWO's bank or THREE's N: all of them become HIGH modulo 8.
        private int romNumber;
        // ONE's B or THREE's RAM bank.
        private int ramNumber;
        private int mode;

        void reset() {
            enabled = false;
            romNumber = 1;
            ramNumber = 0;
            mode = 0;
            settle();
        }

        private void settle() {
            on = in && (kind == PLAIN || enabled);
            highBank = romNumber & 7;
            ramBank = kind == ONE && mode == 0 ? 0 : ramNumber;
        }

        boolean headerAgrees() {
            int x = 0;
            for (int at = HEADER_FIRST; at < HEADER_CHECK; at++) {
                x = x - rom[at] - 1;
            }
            return (x & 255) == rom[HEADER_CHECK];
        }

        int loadRom(int address) {
            int bank = address < 0x4000 ? 0 : highBank;
            return rom[bank * ROM_SIZE + (address & 1023)];
        }

        int loadRam(int address) {
            if (!on) {
                return 255;
            }
            int v = ram[ramBank * RAM_SIZE + (address & 255)];
            return kind == TWO ? v | 0xF0 : v;
        }

        void storeRam(int address, int v) {
            if (on) {
                ram[ramBank * RAM_SIZE + (address & 255)] = kind == TWO ? v & 15 : v;
            }
        }

        void control(int address, int v) {
            if (!in) {
                return;
            }
            switch (kind) {
                case ONE: controlOne(address, v); break;
                case TWO: controlTwo(address, v); break;
                case THREE: controlThree(address, v); break;
                default: break;
            }
            settle();
        }

        private void controlOne(int address, int v) {
            if (address < 0x2000) {
                enabled = (v & 15) == 10;
            } else if (address < 0x4000) {
                romNumber = (v & 31) == 0 ? 1 : v & 31;
            } else if (address < 0x6000) {
                ramNumber = v & 3;
            } else {
                mode = v & 1;
            }
        }

        private void controlTwo(int address, int v) {
            if (address >= 0x4000) {
                return;
            }
            if ((address & 256) == 0) {
                enabled = (v & 15) == 10;
            } else {
                romNumber = (v & 15) == 0 ? 1 : v & 15;
            }
        }

        private void controlThree(int address, int v) {
            if (address < 0x2000) {
                enabled = (v & 15) == 10;
            } else if (address < 0x3000) {
                romNumber = romNumber & 256 | v;
            } else if (address < 0x4000) {
                romNumber = romNumber & 255 | (v & 1) << 8;
            } else if (address < 0x6000) {
                ramNumber = v & 3;
            }
        }
    }

    /** The ports, and the counters behind them that every cycle moves on. */
    private static final class Ports {
        static final int IF = 0x0F;
        static final int LCDC = 0x40;
        static final int SCY = 0x42;
        static final int SCX = 0x43;
        static final int TRANSFER = 0x46;
        static final int BGP = 0x47;
        static final int OBP = 0x48;
        static final int WY = 0x4A;
        static final int WX = 0x4B;
        static final int IE = 0xFF;
        static final int SHOWN_ROWS = 144;
        private static final int KEYS = 0x00;
        private static final int DIV = 0x04;
        private static final int TIMA = 0x05;
        private static final int TMA = 0x06;
        private static final int TAC = 0x07;
        private static final int STAT = 0x41;
        private static final int LY = 0x44;
        private static final int LYC = 0x45;
        private static final int ALL_ROWS = 154;
        private static final int ROW_DOTS = 114;
        // TIMA goes on when S has none of these bits, for TAC & 3.
        private static final int[] TIMER_MASKS = {255, 3, 15, 63};

        // What was written, by the lower octet of the address.
        final int[] octets = new int[256];
        int frames;
        private int down;
        private int ticks;
        private int dot;
        private int ly;
        private int state;
        private boolean signal;

        void reset() {
            Arrays.fill(octets, 0);
            octets[LCDC] = 0x91;
            octets[BGP] = 0xFC;
            octets[IF] = 1;
            frames = 0;
            ticks = 0;
            dot = 0;
            ly = 0;
            signal = false;
            findState();
        }

        int press(int mask) {
            int was = down;
            down = mask;
            if ((mask & ~was) != 0) {
                octets[IF] |= 16;
            }
            return was;
        }

        int waiting() {
            return octets[IE] & octets[IF] & 31;
        }

        void clearDivider() {
            ticks = 0;
        }

        int load(int port) {
            switch (port) {
                case KEYS:
                    int select = octets[KEYS];
                    int pressed = ((select & 16) == 0 ? down & 15 : 0) | ((select & 32) == 0 ? down >> 4 : 0);
                    return 0xC0 | select | ~pressed & 15;
                case DIV: return ticks >> 6 & 255;
                case TAC: return octets[TAC] | 0xF8;
                case IF: return octets[IF] | 0xE0;
                case STAT: return octets[STAT] | 0x80 | (ly == octets[LYC] ? 4 : 0) | state;
                case LY: return ly;
                case TIMA: case TMA: case LCDC: case SCY: case SCX: case LYC: case TRANSFER:
                case BGP: case OBP: case OBP + 1: case WY: case WX: case IE:
                    return octets[port & 255];
                default: return 255;
            }
        }

        // Ports without a name may keep what is written: nothing shows it.
        void store(int port, int v) {
            switch (port) {
                case KEYS: octets[KEYS] = v & 0x30; break;
                case DIV: clearDivider(); break;
                case TAC: octets[TAC] = v & 7; break;
                case IF: octets[IF] = v & 31; break;
                case STAT: octets[STAT] = v & 0x78; break;
                case LCDC:
                    octets[LCDC] = v;
                    findState();
                    break;
                default: octets[port & 255] = v; break;
            }
        }

        void pass(int cycles) {
            for (int i = 0; i < cycles; i++) {
                ticks = ticks + 1 & 0xFFFF;
                moveTimer();
                moveDot();
                findState();
                lookAtSignal();
            }
        }

        private void findState() {
            if ((octets[LCDC] & 128) == 0) {
                dot = 0;
                ly = 0;
                state = 0;
            } else if (ly >= SHOWN_ROWS) {
                state = 1;
            } else {
                state = dot < 20 ? 2 : dot < 63 ? 3 : 0;
            }
        }

        private void moveTimer() {
            int tac = octets[TAC];
            if ((tac & 4) == 0 || (ticks & TIMER_MASKS[tac & 3]) != 0) {
                return;
            }
            if (octets[TIMA] == 255) {
                octets[TIMA] = octets[TMA];
                octets[IF] |= 4;
            } else {
                octets[TIMA]++;
            }
        }

        private void moveDot() {
            if ((octets[LCDC] & 128) == 0) {
                return;
            }
            dot++;
            if (dot < ROW_DOTS) {
                return;
            }
            dot = 0;
            ly = ly + 1 < ALL_ROWS ? ly + 1 : 0;
            if (ly == SHOWN_ROWS) {
                octets[IF] |= 1;
                frames++;
            }
        }

        private void lookAtSignal() {
            boolean now = (octets[LCDC] & 128) != 0 && (rowSignals() || stateSignals());
            if (now && !signal) {
                octets[IF] |= 2;
            }
            signal = now;
        }

        private boolean rowSignals() {
            return (octets[STAT] & 64) != 0 && ly == octets[LYC];
        }

        // Bits 3, 4 and 5 belong to the states 0, 1 and 2; state 3 has none.
        private boolean stateSignals() {
            return state < 3 && (octets[STAT] & 8 << state) != 0;
        }
    }

    /** All that an address can mean. */
    private static final class Memory {
        static final int SPRITES_SIZE = 160;
        private static final int SPRITES_FIRST = 0xFE00;

        final int[] video = new int[8192];
        final int[] sprites = new int[SPRITES_SIZE];
        private final int[] work = new int[1024];
        private final int[] high = new int[128];
        private final Cartridge cartridge;
        private final Ports ports;

        Memory(Cartridge cartridge, Ports ports) {
            this.cartridge = cartridge;
            this.ports = ports;
        }

        void reset() {
            Arrays.fill(video, 0);
            Arrays.fill(sprites, 0);
            Arrays.fill(work, 0);
            Arrays.fill(high, 0);
        }

        int load(int address) {
            if (address < 0x8000) {
                return cartridge.loadRom(address);
            }
            if (address < 0xA000) {
                return video[address & 8191];
            }
            if (address < 0xC000) {
                return cartridge.loadRam(address);
            }
            if (address < SPRITES_FIRST) {
                return work[address & 1023];
            }
            if (address < SPRITES_FIRST + SPRITES_SIZE) {
                return sprites[address - SPRITES_FIRST];
            }
            if (address < 0xFF00) {
                return 255;
            }
            if (address < 0xFF80 || address == 0xFFFF) {
                return ports.load(address & 255);
            }
            return high[address & 127];
        }

        void store(int address, int v) {
            if (address < 0x8000) {
                cartridge.control(address, v);
            } else if (address < 0xA000) {
                video[address & 8191] = v;
            } else if (address < 0xC000) {
                cartridge.storeRam(address, v);
            } else if (address < SPRITES_FIRST) {
                work[address & 1023] = v;
            } else if (address < SPRITES_FIRST + SPRITES_SIZE) {
                sprites[address - SPRITES_FIRST] = v;
            } else if (address >= 0xFF80 && address < 0xFFFF) {
                high[address & 127] = v;
            } else if (address >= 0xFF00) {
                ports.store(address & 255, v);
                if (address == 0xFF00 + Ports.TRANSFER) {
                    for (int i = 0; i < SPRITES_SIZE; i++) {
                        sprites[i] = load(v * 256 + i);
                    }
                }
            }
        }
    }

    /** Makes rows of pixels; its arrays are made once and serve every row. */
    private static final class Screen {
        static final int WIDTH = 160;
        private static final int SPRITES = 40;
        private static final int SPRITES_IN_ROW = 10;

        final int[] pixels = new int[WIDTH];
        private final int[] video;
        private final int[] sprites;
        private final int[] ports;
        // The sprite that is ahead at each x: its number there (0 for none), its x and its flags.
        private final int[] aheadNumber = new int[WIDTH];
        private final int[] aheadX = new int[WIDTH];
        private final int[] aheadFlags = new int[WIDTH];

        Screen(int[] video, int[] sprites, int[] ports) {
            this.video = video;
            this.sprites = sprites;
            this.ports = ports;
        }

        void reset() {
            Arrays.fill(pixels, 0);
        }

        int make(int y) {
            if (!has(128)) {
                Arrays.fill(pixels, 0);
                return 0;
            }
            Arrays.fill(aheadNumber, 0);
            if (has(2)) {
                chooseSprites(y);
            }
            int sum = 0;
            for (int x = 0; x < WIDTH; x++) {
                pixels[x] = colour(x, backgroundNumber(x, y));
                sum += pixels[x];
            }
            return sum;
        }

        private boolean has(int controlBit) {
            return (ports[Ports.LCDC] & controlBit) != 0;
        }

        private int colour(int x, int background) {
            int number = aheadNumber[x];
            int flags = aheadFlags[x];
            if (number == 0 || (flags & 128) != 0 && background != 0) {
                return ports[Ports.BGP] >> 2 * background & 3;
            }
            return ports[Ports.OBP + (flags >> 4 & 1)] >> 2 * number & 3;
        }

        private int backgroundNumber(int x, int y) {
            if (!has(1)) {
                return 0;
            }
            int wx = ports[Ports.WX];
            int wy = ports[Ports.WY];
            if (has(32) && y >= wy && x + 7 >= wx) {
                return mapNumber(has(64), x + 7 - wx, y - wy);
            }
            return mapNumber(has(8), x + ports[Ports.SCX] & 255, y + ports[Ports.SCY] & 255);
        }

        private int mapNumber(boolean upperMap, int column, int line) {
            int tile = video[(upperMap ? 0x1C00 : 0x1800) + 32 * (line >> 3 & 31) + (column >> 3 & 31)];
            int start = has(16) ? 16 * tile : 0x1000 + 16 * (byte) tile;
            return numberAt(start + 2 * (line & 7), 7 - (column & 7));
        }

        private int numberAt(int place, int bit) {
            int first = video[place & 8191] >> bit & 1;
            int second = video[place + 1 & 8191] >> bit & 1;
            return first + 2 * second;
        }

        private void chooseSprites(int y) {
            int height = has(4) ? 16 : 8;
            int chosen = 0;
            for (int i = 0; i < SPRITES && chosen < SPRITES_IN_ROW; i++) {
                int line = y - (sprites[4 * i] - 16);
                if (line >= 0 && line < height) {
                    placeSprite(4 * i, line, height);
                    chosen++;
                }
            }
        }

        private void placeSprite(int at, int line, int height) {
            int left = sprites[at + 1];
            int tile = height == 16 ? sprites[at + 2] & 0xFE : sprites[at + 2];
            int flags = sprites[at + 3];
            int place = 16 * tile + 2 * ((flags & 64) != 0 ? height - 1 - line : line);
            for (int column = 0; column < 8; column++) {
                int x = left - 8 + column;
                int number = numberAt(place, (flags & 32) != 0 ? column : 7 - column);
                if (x >= 0 && x < WIDTH && number != 0 && (aheadNumber[x] == 0 || left < aheadX[x])) {
                    aheadNumber[x] = number;
                    aheadX[x] = left;
                    aheadFlags[x] = flags;
                }
            }
        }
    }

    /** The registers and what the instructions do with them. */
    private static final class Processor {
        private static final int Z = 128;
        private static final int N = 64;
        private static final int H = 32;
        private static final int C = 16;
        // Places in r by the document's r numbers; 6 is memory there, so that F can have this place.
        private static final int REG_C = 1;
        private static final int REG_F = 6;
        private static final int REG_A = 7;
        private static final int AT_HL = 6;
        private static final int HL = 2;
        private static final int SP = 3;
        private static final int AF = 3;
        private static final int CB = 0xCB;
        private static final int FACE_SP = 8;
        // The face's order A F B C D E H L, as places in r.
        private static final int[] FACE_ORDER = {7, 6, 0, 1, 2, 3, 4, 5};

        int cycles;
        int done;
        int taken;
        boolean ime;
        boolean halted;
        boolean locked;
        private final int[] r = new int[8];
        private int sp;
        private int pc;
        // EI was the last instruction: IME is to be 1 behind the next one.
        private boolean armed;
        private int time;
        private final Memory memory;
        private final Ports ports;

        Processor(Memory memory, Ports ports) {
            this.memory = memory;
            this.ports = ports;
        }

        void reset() {
            r[REG_A] = 1;
            r[REG_F] = 0xB0;
            setPair(0, 0x13);
            setPair(1, 0xD8);
            setPair(HL, 0x14D);
            sp = 0xFFFE;
            pc = 0x100;
            ime = false;
            halted = false;
            locked = false;
            armed = false;
            cycles = 0;
            done = 0;
            taken = 0;
        }

        int valueOf(int k) {
            if (k < FACE_SP) {
                return r[FACE_ORDER[k & 7]];
            }
            return k == FACE_SP ? sp : pc;
        }

        void put(int k, int v) {
            if (k == 1) {
                r[REG_F] = v & 0xF0;
            } else if (k < FACE_SP) {
                r[FACE_ORDER[k & 7]] = v & 255;
            } else if (k == FACE_SP) {
                sp = v & 0xFFFF;
            } else {
                pc = v & 0xFFFF;
            }
        }

        // Rule 11 of the language lets calls go eight deep: so the blocks of instructions are chosen here,
        // and what they call goes to the memory without a step between.
        void step() {
            int waiting = ports.waiting();
            time = 0;
            if (waiting != 0) {
                halted = false;
            }
            if (waiting != 0 && ime) {
                takeInterrupt(waiting);
            } else if (halted) {
                passHalted();
                return;
            } else {
                // Nothing but EI and DI looks at IME in between, so that it may be 1 before what follows EI is done.
                ime = ime || armed;
                armed = false;
                int i = fetch();
                int y = i >> 3 & 7;
                int z = i & 7;
                switch (i >> 6) {
                    case 0: doLow(y, z); break;
                    case 1: doCopy(y, z); break;
                    case 2: combine(y, octetAt(z)); break;
                    default:
                        if (i == CB) {
                            doPrefixed();
                        } else if (z < 4) {
                            doHigh(y, z);
                        } else {
                            doHighest(y, z);
                        }
                        break;
                }
            }
            finish();
        }

        // An instruction that is not done takes its time, but is not one of those done.
        private void passHalted() {
            cycles++;
            ports.pass(1);
        }

        private void finish() {
            if (locked) {
                return;
            }
            done++;
            cycles += time;
            ports.pass(time);
        }

        private void takeInterrupt(int waiting) {
            int number = 0;
            while (number < 4 && (waiting >> number & 1) == 0) {
                number++;
            }
            ime = false;
            ports.octets[Ports.IF] &= ~(1 << number);
            push(pc);
            pc = 0x40 + 8 * number;
            time = 5;
            taken++;
        }

        private void doLow(int y, int z) {
            int p = y >> 1;
            boolean q = (y & 1) != 0;
            switch (z) {
                case 0:
                    if (y == 1) {
                        storeStackPointer(fetchWord());
                    } else if (y == 2) {
                        fetch();
                        ports.clearDivider();
                    } else if (y >= 3) {
                        int e = (byte) fetch();
                        jump(y == 3 || holds(y - 4), pc + e);
                    }
                    break;
                case 1:
                    if (q) {
                        addToHl(pair(p));
                    } else {
                        setPair(p, fetchWord());
                    }
                    break;
                case 2:
                    copyA(pair(Math.min(p, HL)), q);
                    if (p >= HL) {
                        setPair(HL, pair(HL) + (p == HL ? 1 : -1));
                    }
                    break;
                case 3:
                    setPair(p, pair(p) + (q ? -1 : 1));
                    time++;
                    break;
                case 4: setOctet(y, increased(octetAt(y))); break;
                case 5: setOctet(y, decreased(octetAt(y))); break;
                case 6: setOctet(y, fetch()); break;
                default: changeA(y); break;
            }
        }

        private void doCopy(int y, int z) {
            if (y == AT_HL && z == AT_HL) {
                halted = true;
            } else {
                setOctet(y, octetAt(z));
            }
        }

        private void doHigh(int y, int z) {
            boolean q = (y & 1) != 0;
            switch (z) {
                case 0:
                    if (y < 4) {
                        returnIf(holds(y));
                    } else if (q) {
                        addToStackPointer(y == 5 ? SP : HL, fetch());
                    } else {
                        copyA(0xFF00 | fetch(), y == 6);
                    }
                    break;
                case 1:
                    if (!q) {
                        setStackPair(y >> 1, pop());
                    } else if (y < 4) {
                        jump(true, pop());
                        ime = ime || y == 3;
                    } else if (y == 5) {
                        pc = pair(HL);
                    } else {
                        sp = pair(HL);
                        time++;
                    }
                    break;
                case 2:
                    if (y < 4) {
                        jump(holds(y), fetchWord());
                    } else {
                        copyA(q ? fetchWord() : 0xFF00 | r[REG_C], y >= 6);
                    }
                    break;
                default:
                    if (y == 0) {
                        jump(true, fetchWord());
                    } else if (y >= 6) {
                        switchInterrupts(y == 7);
                    } else {
                        locked = true;
                    }
                    break;
            }
        }

        private void doHighest(int y, int z) {
            if (z == 6) {
                combine(y, fetch());
            } else if (z == 7) {
                push(pc);
                pc = 8 * y;
            } else if (z == 5 && (y & 1) == 0) {
                push(stackPair(y >> 1));
            } else if (z == 4 && y < 4 || z == 5 && y == 1) {
                int to = fetchWord();
                if (z == 5 || holds(y)) {
                    push(pc);
                    pc = to;
                }
            } else {
                locked = true;
            }
        }

        private void doPrefixed() {
            int i = fetch();
            int y = i >> 3 & 7;
            int z = i & 7;
            int v = octetAt(z);
            switch (i >> 6) {
                case 0: setOctet(z, shifted(y, v)); break;
                case 1: r[REG_F] = r[REG_F] & C | H | zero(v & 1 << y); break;
                case 2: setOctet(z, v & ~(1 << y)); break;
                default: setOctet(z, v | 1 << y); break;
            }
        }

        private int fetch() {
            int v = memory.load(pc);
            pc = pc + 1 & 0xFFFF;
            time++;
            return v;
        }

        private int fetchWord() {
            int low = fetch();
            return fetch() << 8 | low;
        }

        private int octetAt(int k) {
            if (k != AT_HL) {
                return r[k & 7];
            }
            time++;
            return memory.load(pair(HL));
        }

        private void setOctet(int k, int v) {
            if (k != AT_HL) {
                r[k & 7] = v;
                return;
            }
            time++;
            memory.store(pair(HL), v);
        }

        private int pair(int p) {
            return p == SP ? sp : r[2 * p & 7] << 8 | r[2 * p + 1 & 7];
        }

        private void setPair(int p, int v) {
            if (p == SP) {
                sp = v & 0xFFFF;
            } else {
                r[2 * p & 7] = v >> 8 & 255;
                r[2 * p + 1 & 7] = v & 255;
            }
        }

        private int stackPair(int p) {
            return p == AF ? r[REG_A] << 8 | r[REG_F] : pair(p);
        }

        private void setStackPair(int p, int v) {
            if (p == AF) {
                r[REG_A] = v >> 8;
                r[REG_F] = v & 0xF0;
            } else {
                setPair(p, v);
            }
        }

        private void push(int v) {
            memory.store(sp - 1 & 0xFFFF, v >> 8);
            memory.store(sp - 2 & 0xFFFF, v & 255);
            sp = sp - 2 & 0xFFFF;
            time += 3;
        }

        private int pop() {
            int v = memory.load(sp + 1 & 0xFFFF) << 8 | memory.load(sp);
            sp = sp + 2 & 0xFFFF;
            time += 2;
            return v;
        }

        private boolean holds(int cc) {
            boolean is = (r[REG_F] & (cc < 2 ? Z : C)) != 0;
            return is == ((cc & 1) != 0);
        }

        private void jump(boolean goes, int to) {
            if (goes) {
                pc = to & 0xFFFF;
                time++;
            }
        }

        private void returnIf(boolean goes) {
            time++;
            if (goes) {
                jump(true, pop());
            }
        }

        private void switchInterrupts(boolean enable) {
            armed = enable && !ime;
            ime = ime && enable;
        }

        private void storeStackPointer(int address) {
            memory.store(address, sp & 255);
            memory.store(address + 1 & 0xFFFF, sp >> 8);
            time += 2;
        }

        private void copyA(int address, boolean toA) {
            time++;
            if (toA) {
                r[REG_A] = memory.load(address);
            } else {
                memory.store(address, r[REG_A]);
            }
        }

        private void addToStackPointer(int p, int n) {
            int h = (sp & 15) + (n & 15) > 15 ? H : 0;
            int c = (sp & 255) + n > 255 ? C : 0;
            r[REG_F] = h | c;
            setPair(p, sp + (byte) n);
            time += p == SP ? 2 : 1;
        }

        private void addToHl(int v) {
            int hl = pair(HL);
            int h = (hl & 0xFFF) + (v & 0xFFF) > 0xFFF ? H : 0;
            int c = hl + v > 0xFFFF ? C : 0;
            r[REG_F] = r[REG_F] & Z | h | c;
            setPair(HL, hl + v);
            time++;
        }

        private int increased(int v) {
            int now = v + 1 & 255;
            r[REG_F] = r[REG_F] & C | zero(now) | ((now & 15) == 0 ? H : 0);
            return now;
        }

        private int decreased(int v) {
            int now = v - 1 & 255;
            r[REG_F] = r[REG_F] & C | N | zero(now) | ((now & 15) == 15 ? H : 0);
            return now;
        }

        private void combine(int y, int v) {
            int a = r[REG_A];
            int carry = (r[REG_F] & C) != 0 ? 1 : 0;
            switch (y) {
                case 0: add(v, 0); break;
                case 1: add(v, carry); break;
                case 2: r[REG_A] = difference(v, 0); break;
                case 3: r[REG_A] = difference(v, carry); break;
                case 4: setLogic(a & v, H); break;
                case 5: setLogic(a ^ v, 0); break;
                case 6: setLogic(a | v, 0); break;
                default: difference(v, 0); break;
            }
        }

        private void add(int v, int carry) {
            int a = r[REG_A];
            int sum = a + v + carry;
            int h = (a & 15) + (v & 15) + carry > 15 ? H : 0;
            r[REG_A] = sum & 255;
            r[REG_F] = zero(sum & 255) | h | (sum > 255 ? C : 0);
        }

        private int difference(int v, int carry) {
            int a = r[REG_A];
            int rest = a - v - carry;
            int h = (a & 15) - (v & 15) - carry < 0 ? H : 0;
            r[REG_F] = zero(rest & 255) | N | h | (rest < 0 ? C : 0);
            return rest & 255;
        }

        private void setLogic(int v, int h) {
            r[REG_A] = v;
            r[REG_F] = zero(v) | h;
        }

        private void changeA(int y) {
            int f = r[REG_F];
            switch (y) {
                case 4: adjustDecimal(); break;
                case 5:
                    r[REG_A] ^= 255;
                    r[REG_F] = f | N | H;
                    break;
                case 6: r[REG_F] = f & Z | C; break;
                case 7: r[REG_F] = f & (Z | C) ^ C; break;
                default:
                    r[REG_A] = shifted(y, r[REG_A]);
                    r[REG_F] &= C;
                    break;
            }
        }

        private void adjustDecimal() {
            int a = r[REG_A];
            int f = r[REG_F];
            boolean carry = (f & C) != 0;
            boolean half = (f & H) != 0;
            int change;
            if ((f & N) != 0) {
                change = (carry ? -0x60 : 0) + (half ? -6 : 0);
            } else {
                carry = carry || a > 0x99;
                change = (carry ? 0x60 : 0) + (half || (a & 15) > 9 ? 6 : 0);
            }
            r[REG_A] = a + change & 255;
            r[REG_F] = zero(r[REG_A]) | f & N | (carry ? C : 0);
        }

        private int shifted(int y, int v) {
            int carry = (r[REG_F] & C) != 0 ? 1 : 0;
            boolean left = y == 0 || y == 2 || y == 4;
            int out = left ? v >> 7 : v & 1;
            int now;
            switch (y) {
                case 0: now = v << 1 | out; break;
                case 1: now = v >> 1 | out << 7; break;
                case 2: now = v << 1 | carry; break;
                case 3: now = v >> 1 | carry << 7; break;
                case 4: now = v << 1; break;
                case 5: now = v >> 1 | v & 128; break;
                case 6:
                    now = v >> 4 | v << 4;
                    out = 0;
                    break;
                default: now = v >> 1; break;
            }
            r[REG_F] = zero(now & 255) | (out != 0 ? C : 0);
            return now & 255;
        }

        private static int zero(int v) {
            return v == 0 ? Z : 0;
        }
    }
}
