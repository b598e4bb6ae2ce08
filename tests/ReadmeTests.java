import java.io.IOException;
import java.nio.file.Files;
import java.nio.file.Path;
import java.util.List;

/** The examples of README.md, in its own lines: each of them has to stand here, too. */
final class ReadmeTests {
    private ReadmeTests() {
    }

    static void all() {
        Due.noSentence();
        examples();
        linesAreThose();
    }

    private static void examples() {
        ArrayFile x = new ArrayFile();
        x.type('a');
        int a = x.array(304, 1, 22, 15, 0);
        x.write(a, 0, 0, 300);
        int value = x.read(a, 0, 0);
        Due.is("value", 300, value);
        x.type('g');
        int g = x.group();
        Due.is("g", 2, g);
        x.type('g' | '/' << 8 | 'b' << 16);
        int b = x.array(1010, 2, 88, 4, -1);
        Due.is("b", 3, b);
        x.type('s' | '>' << 8 | 'q' << 16);
        int links = x.link(ArrayFile.NONE);
        Due.is("links", 3, links);
        x.type('s');
        int found = x.find();
        Due.is("found", ArrayFile.NONE, found);
        int kind = x.trouble(0, false);
        Due.is("kind", ArrayFile.MISSING, kind);
        int place = x.trouble(1, true);
        Due.is("place", 0, place);
        int from = x.slab(0, 0, 2, 2, 11);
        int to = x.slab(1, 505, 2, 2, 22);
        Due.is("from and to", 44, 10 * from + to);
        int copied = x.copy(a, b);
        Due.is("copied", 4, copied);
        x.type('v');
        int v = x.view(1212, 0);
        int maps = x.map(v, a);
        Due.is("maps", 1, maps);
        int seen = x.read(v, 5, 5);
        Due.is("seen", 300, seen);
        int at = x.spoil(a, 0, 0, 1);
        Due.is("at", 1, at);
        int bad = x.bad(v, 5, 5);
        Due.is("bad", 8, bad);
        Due.ise("read of what is bad", () -> x.read(v, 5, 5));
        int plain = x.plain(a, 0, 0);
        Due.is("plain", 300, plain);
        at = x.spoil(a, 0, 0, 1);
        Due.is("turned back", 300, x.read(v, 5, 5) + 0 * at);
    }

    private static List<String> linesOf(String file) {
        try {
            return Files.readAllLines(Path.of(file));
        } catch (IOException e) {
            return List.of();
        }
    }

    private static void linesAreThose() {
        List<String> here = linesOf("tests/ReadmeTests.java").stream().map(String::trim).toList();
        boolean isExample = false;
        int count = 0;
        for (String line : linesOf("README.md")) {
            if (line.startsWith("```")) {
                isExample = line.equals("```java");
            } else if (isExample) {
                count++;
                Due.is("tested: " + line, 1, here.contains(line.replaceAll(" *//.*", "")) ? 1 : 0);
            }
        }
        Due.is("examples that were read", 1, count > 20 ? 1 : 0);
    }
}
