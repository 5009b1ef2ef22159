import java.io.File;
import java.io.IOException;
import java.lang.reflect.Method;
import java.lang.reflect.Modifier;
import java.nio.file.Files;
import java.nio.file.Path;
import java.util.ArrayList;
import java.util.List;

/** README.md says how the class is used and tested as they stand: its example, its calls, its tests. */
public final class ReadmeTest {
    private static final Path README = Path.of("README.md");
    private static final Path TESTS = Path.of("src/test/java");

    public static void main(String[] args) throws IOException {
        example();
        sameExample();
        calls();
        tests();
        Due.end();
    }

    private static void example() {
        // README's example begins
        NearestReader reader = new NearestReader();
        boolean written = reader.write(0x332E3134L);  // true: the text is "3.14", the highest byte first, zeros left out
        boolean found = reader.wide();                // true: it is a NUMERAL
        long bits = reader.bits();                    // 0x40091EB851EB851FL
        long small = reader.narrowed(bits);           // 0x4048F5C3L
        long large = reader.widened(small);           // 0x40091EB860000000L
        boolean cut = reader.keep(1);                 // true: the text is "3"
        boolean added = reader.write(0x65353030L);    // true: the text is "3e500"
        boolean again = reader.narrow();              // true
        long beyond = reader.bits();                  // 0x7F800000L, which is INFINITE
        long third = reader.quotient(1, 3, true);     // 0x3FD5555555555555L
        int order = reader.compare(third, 0, true);   // 1
        int size = reader.length();                   // 5
        int count = reader.readings();                // 2
        // README's example ends
        Due.due("written", written, true);
        Due.due("found", found, true);
        Due.due("bits", bits, 0x40091EB851EB851FL);
        Due.due("small", small, 0x4048F5C3L);
        Due.due("large", large, 0x40091EB860000000L);
        Due.due("cut", cut, true);
        Due.due("added", added, true);
        Due.due("again", again, true);
        Due.due("beyond", beyond, 0x7F800000L);
        Due.due("third", third, 0x3FD5555555555555L);
        Due.due("order", order, 1);
        Due.due("size", size, 5);
        Due.due("count", count, 2);
    }

    /** What README shows is what example() runs. */
    private static void sameExample() throws IOException {
        List<String> shown = between(README, "```java", "```");
        List<String> run = between(TESTS.resolve("ReadmeTest.java"),
                "// README's example begins", "// README's example ends");
        Due.due("lines in README's example", shown.size(), 14);
        Due.due("README's example is the one that is run", shown.equals(run), true);
    }

    private static List<String> between(Path file, String first, String last) throws IOException {
        List<String> lines = new ArrayList<>();
        boolean inside = false;
        for (String line : Files.readAllLines(file)) {
            String plain = line.strip();
            if (inside && plain.equals(last)) {
                return lines;
            }
            if (inside) {
                lines.add(plain);
            }
            inside = inside || plain.equals(first);
        }
        return List.of();
    }

    private static void calls() throws IOException {
        String rows = rowsOf();
        Due.due("README's table of calls has new", rows.contains("`new NearestReader()`"), true);
        for (Method method : NearestReader.class.getDeclaredMethods()) {
            if (Modifier.isPublic(method.getModifiers())) {
                Due.due("README's table of calls has " + method.getName(), rows.contains("`" + method.getName() + "("), true);
            }
        }
    }

    private static void tests() throws IOException {
        String rows = rowsOf();
        File[] files = TESTS.toFile().listFiles((folder, name) -> name.endsWith("Test.java"));
        Due.due("tests are found", files != null && files.length > 0, true);
        for (File file : files) {
            String name = file.getName().replace(".java", "");
            Due.due("README's table of tests has " + name, rows.contains("| " + name + " |"), true);
        }
    }

    /** The lines of README's tables. */
    private static String rowsOf() throws IOException {
        StringBuilder rows = new StringBuilder();
        for (String line : Files.readAllLines(README)) {
            if (line.startsWith("|")) {
                rows.append(line).append('\n');
            }
        }
        return rows.toString();
    }
}
