import java.lang.reflect.Constructor;
import java.lang.reflect.Field;
import java.lang.reflect.Method;
import java.lang.reflect.Modifier;
import java.util.Arrays;
import java.util.TreeSet;

/** The public face, promise 1 (a new object) and promises 5 and 6 (set, register). */
public final class FaceTest {
    private static final String[] FACE = {
        "int count(int) IllegalArgumentException",
        "int insert(int) IllegalArgumentException IllegalStateException",
        "int keys(int) IllegalArgumentException",
        "int pixel(int) IndexOutOfBoundsException",
        "int read(int) IllegalArgumentException",
        "int register(int) IllegalArgumentException",
        "int rom(int,int,int,long) IllegalArgumentException IndexOutOfBoundsException",
        "int row(int) IllegalArgumentException",
        "int run(int) IllegalArgumentException IllegalStateException UnsupportedOperationException",
        "int set(int,int) IllegalArgumentException",
        "int write(int,int,long) IllegalArgumentException",
        "double speed() ArithmeticException",
    };

    public static void main(String[] args) {
        faceIsTheDocuments();
        insideKeepsToTheRules();
        newObject();
        withoutCartridge();
        setAnswersWhatWas();
        setKeepsLowestBits();
        wrongRegisters();
        Check.finish("FaceTest");
    }

    private static void faceIsTheDocuments() {
        TreeSet<String> due = new TreeSet<>(Arrays.asList(FACE));
        TreeSet<String> seen = new TreeSet<>();
        for (Method m : TileConsole.class.getDeclaredMethods()) {
            if (!Modifier.isPrivate(m.getModifiers())) {
                seen.add(spelled(m));
            }
        }
        Check.isTrue("the methods are " + due + ", seen " + seen, due.equals(seen));
        Check.isTrue("public final", TileConsole.class.getModifiers() == (Modifier.PUBLIC | Modifier.FINAL));
        Constructor<?>[] made = TileConsole.class.getDeclaredConstructors();
        Check.equal("constructors", 1, made.length);
        Check.isTrue("public constructor", Modifier.isPublic(made[0].getModifiers()) && made[0].getParameterCount() == 0);
        for (Field f : TileConsole.class.getDeclaredFields()) {
            Check.isTrue("field " + f.getName() + " is private", Modifier.isPrivate(f.getModifiers()));
        }
    }

    // Rules 1 and 5 of LANGUAGE.md, as far as the compiled classes show them.
    private static void insideKeepsToTheRules() {
        for (Class<?> inside : TileConsole.class.getDeclaredClasses()) {
            int kind = inside.getModifiers();
            Check.isTrue(inside + " is static", Modifier.isStatic(kind));
            Check.isTrue(inside + " is not to be seen", !Modifier.isPublic(kind) && !Modifier.isProtected(kind));
            ownMembers(inside);
        }
        ownMembers(TileConsole.class);
    }

    private static void ownMembers(Class<?> c) {
        for (Field f : c.getDeclaredFields()) {
            boolean isStatic = Modifier.isStatic(f.getModifiers());
            Check.isTrue(f + " is final if static", !isStatic || Modifier.isFinal(f.getModifiers()));
        }
        for (Method m : c.getDeclaredMethods()) {
            boolean faces = c == TileConsole.class && Modifier.isPublic(m.getModifiers());
            for (String line : FACE) {
                String name = line.substring(line.indexOf(' ') + 1, line.indexOf('('));
                Check.isTrue(m + " has a name of its own", faces || !name.equals(m.getName()));
            }
        }
    }

    private static String spelled(Method m) {
        StringBuilder text = new StringBuilder();
        text.append(m.getReturnType().getSimpleName()).append(' ').append(m.getName()).append('(');
        String comma = "";
        for (Class<?> c : m.getParameterTypes()) {
            text.append(comma).append(c.getSimpleName());
            comma = ",";
        }
        text.append(')');
        for (Class<?> c : m.getExceptionTypes()) {
            text.append(' ').append(c.getSimpleName());
        }
        return text.toString();
    }

    private static void newObject() {
        TileConsole x = new TileConsole();
        Check.registers("new", x, 1, 0xB0, 0, 0x13, 0, 0xD8, 1, 0x4D, 0xFFFE, 0x100);
        for (int what = 0; what <= 8; what++) {
            Check.equal("new: count(" + what + ")", 0, x.count(what));
        }
        Check.equal("new: LCDC", 0x91, x.read(0xFF40));
        Check.equal("new: BGP", 0xFC, x.read(0xFF47));
        Check.equal("new: IF", 0xE1, x.read(0xFF0F));
        Check.equal("new: IE", 0, x.read(0xFFFF));
        Check.equal("new: LY", 0, x.read(0xFF44));
        Check.equal("new: DIV", 0, x.read(0xFF04));
        Check.equal("new: KEYS", 0xCF, x.read(0xFF00));
        Check.equal("new: ROM", 0, x.read(0x0000));
        Check.equal("new: HIGH bank's ROM", 0, x.read(0x4000));
        Check.equal("new: RAM is not ON", 0xFF, x.read(0xA000));
        Check.equal("new: VIDEO", 0, x.read(0x8000));
        Check.equal("new: WORK", 0, x.read(0xC000));
        Check.equal("new: SPRITES", 0, x.read(0xFE00));
        Check.equal("new: HIGH", 0, x.read(0xFF80));
        Check.equal("new: pixel 0", 0, x.pixel(0));
        Check.equal("new: keys down", 0, x.keys(0));
        Check.refuses("new: run", IllegalStateException.class, () -> x.run(1));
        Check.refuses("new: speed", ArithmeticException.class, () -> x.speed());
    }

    // Without a cartridge the addresses work all the same, but for RAM and the controllers.
    private static void withoutCartridge() {
        TileConsole x = new TileConsole();
        x.rom(0, 5, 1, 50);
        x.rom(1, 5, 1, 51);
        x.rom(3, 5, 1, 53);
        Check.equal("not IN: bank 0", 50, x.read(0x0005));
        Check.equal("not IN: HIGH is 1 at first", 51, x.read(0x4005));
        Check.put(x, 0x0000, 10);
        Check.put(x, 0x2000, 3);
        Check.equal("not IN: controllers do nothing", 51, x.read(0x4005));
        Check.put(x, 0xA000, 7);
        Check.equal("not IN: RAM is not ON", 255, x.read(0xA000));
        Check.put(x, 0xC001, 7);
        Check.equal("not IN: WORK", 7, x.read(0xC001));
        for (int what = 5; what <= 7; what++) {
            Check.equal("not IN: count " + what, 0, x.count(what));
        }
        x.rom(0, 0x14D, 1, 231);
        x.insert(0);
        Check.equal("what was written while nothing was IN is lost", 0, x.read(0xA000));
        Check.equal("IN: HIGH", 1, x.count(Check.HIGH_BANK));
    }

    private static void setAnswersWhatWas() {
        TileConsole x = new TileConsole();
        int[] was = {1, 0xB0, 0, 0x13, 0, 0xD8, 1, 0x4D, 0xFFFE, 0x100};
        for (int k = 0; k <= 9; k++) {
            Check.equal("set(" + k + ") answers what was", was[k], x.set(k, 16 * (k + 1)));
        }
        for (int k = 0; k <= 9; k++) {
            Check.equal("register(" + k + ") is what was set", 16 * (k + 1), x.register(k));
            Check.equal("set(" + k + ") once more", 16 * (k + 1), x.set(k, 0));
        }
    }

    private static void setKeepsLowestBits() {
        TileConsole x = new TileConsole();
        for (int k = 0; k <= 9; k++) {
            x.set(k, -1);
            int due = k == 1 ? 0xF0 : k < 8 ? 0xFF : 0xFFFF;
            Check.equal("set(" + k + ", -1)", due, x.register(k));
            x.set(k, 0x12345678);
            due = k == 1 ? 0x70 : k < 8 ? 0x78 : 0x5678;
            Check.equal("set(" + k + ", 0x12345678)", due, x.register(k));
        }
        x.set(Check.F, 0x0F);
        Check.equal("F's lower bits are 0 always", 0, x.register(Check.F));
    }

    private static void wrongRegisters() {
        TileConsole x = new TileConsole();
        int[] ks = {-1, 10, Integer.MIN_VALUE, Integer.MAX_VALUE};
        for (int k : ks) {
            Check.refuses("set(" + k + ")", IllegalArgumentException.class, () -> x.set(k, 0));
            Check.refuses("register(" + k + ")", IllegalArgumentException.class, () -> x.register(k));
        }
        Check.registers("after refusals", x, 1, 0xB0, 0, 0x13, 0, 0xD8, 1, 0x4D, 0xFFFE, 0x100);
    }
}
