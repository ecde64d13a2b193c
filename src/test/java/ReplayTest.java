import java.io.IOException;
import java.nio.charset.StandardCharsets;
import java.nio.file.Files;
import java.nio.file.Path;
import java.util.List;

/**
 * Replays src/test/runs/runs.txt: long runs over made-up texts, sound ones and faulty ones. The answers there
 * come from a second reading of the document, a tree walker that shares no code with the class.
 */
final class ReplayTest {
    private static SoftController c = new SoftController();

    public static void main(String[] args) throws IOException {
        List<String> lines = Files.readAllLines(Path.of("src/test/runs/runs.txt"), StandardCharsets.ISO_8859_1);
        for (int n = 0; n < lines.size(); n++) {
            String line = lines.get(n);
            if (line.equals("new")) {
                c = new SoftController();
            } else if (line.startsWith("text ")) {
                Checks.feed(c, unescaped(line.substring(5)));
            } else {
                String[] parts = line.split(" = ");
                String got = answer(parts[0].split(" "));
                if (!got.equals(parts[1])) {
                    Checks.fail("line " + (n + 1) + ": " + parts[0] + " answered " + got + ", due is " + parts[1]);
                } else {
                    Checks.same("line", 0, 0);
                }
            }
        }
        Checks.close("ReplayTest");
    }

    private static String unescaped(String text) {
        StringBuilder plain = new StringBuilder();
        for (int i = 0; i < text.length(); i++) {
            if (text.charAt(i) == '\\') {
                plain.append((char) Integer.parseInt(text.substring(i + 1, i + 3), 16));
                i += 2;
            } else {
                plain.append(text.charAt(i));
            }
        }
        return plain.toString();
    }

    private static String answer(String[] words) {
        long[] a = new long[6];
        for (int i = 1; i < words.length; i++) {
            a[i - 1] = Long.parseLong(words[i]);
        }
        try {
            return call(words[0], a, (int) a[0], (int) a[1]);
        } catch (RuntimeException e) {
            return e.getClass().getSimpleName();
        }
    }

    private static String call(String name, long[] a, int first, int second) {
        switch (name) {
            case "load": return "" + c.load(first != 0);
            case "place": return "" + c.place();
            case "scan": return "" + c.scan(first);
            case "power": c.power(); return "void";
            case "input": c.input(first, second); return "void";
            case "look": return "" + c.look(first, second);
            case "force": c.force(first != 0, second, (int) a[2], (int) a[3]); return "void";
            case "watchdog": c.watchdog(first); return "void";
            case "clear": return c.clear(first) ? "1" : "0";
            case "task": return "" + c.task(first, second);
            case "poke": return "" + c.poke(first, second, a[2]);
            case "field": return "" + c.field(first, second, (int) a[2]);
            case "trace": return c.trace(first, second, a[2] != 0) ? "1" : "0";
            case "event": return "" + c.event(first, second);
            case "sum": return "" + c.sum();
            default: return "no such call";
        }
    }
}
