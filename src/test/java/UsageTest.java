import java.io.IOException;
import java.nio.file.Files;
import java.nio.file.Path;

/** README.md's example: its answers, and that README.md still has these lines. */
public final class UsageTest {
    private static final String[] EXAMPLE = {
        "console.rom(0, 0x14D, 1, 231);",
        "console.rom(0, 0x100, 3, 0xFD183CL);",
        "console.insert(0);",
        "int cycles = console.run(100);",
        "int a = console.register(0);",
        "console.write(0x8000, 2, 0x00F0);",
        "console.write(0xFF47, 1, 0xE4);",
        "int sum = console.row(0);",
        "int left = console.pixel(3);",
        "int right = console.pixel(4);",
    };

    public static void main(String[] args) throws IOException {
        exampleAnswers();
        readmeHasTheExample();
        Check.finish("UsageTest");
    }

    private static void exampleAnswers() {
        TileConsole console = new TileConsole();
        console.rom(0, 0x14D, 1, 231);
        console.rom(0, 0x100, 3, 0xFD183CL);
        console.insert(0);
        int cycles = console.run(100);
        int a = console.register(0);
        console.write(0x8000, 2, 0x00F0);
        console.write(0xFF47, 1, 0xE4);
        int sum = console.row(0);
        int left = console.pixel(3);
        int right = console.pixel(4);
        Check.equal("the example's cycles", 200, cycles);
        Check.equal("the example's A", 51, a);
        Check.equal("the example's row", 80, sum);
        Check.equal("the example's pixel 3", 1, left);
        Check.equal("the example's pixel 4", 0, right);
    }

    // .ci/run starts each test in the project's folder.
    private static void readmeHasTheExample() throws IOException {
        String readme = Files.readString(Path.of("README.md"));
        int from = 0;
        for (String line : EXAMPLE) {
            int at = readme.indexOf(line, from);
            Check.isTrue("README.md has in its place: " + line, at >= 0);
            from = Math.max(from, at);
        }
    }
}
