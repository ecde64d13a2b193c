import java.io.ByteArrayOutputStream;
import java.io.IOException;
import java.io.PrintStream;
import java.net.URL;
import java.net.URLClassLoader;
import java.nio.file.Files;
import java.nio.file.Path;
import java.util.spi.ToolProvider;

/** README.md's program compiles, and prints what README.md says. */
final class ReadmeTest {
    public static void main(String[] args) throws Exception {
        String readme = Files.readString(Path.of("README.md"));
        String program = block(readme, "java");
        String due = block(readme.substring(readme.indexOf(program) + program.length()), "text");
        Path directory = Files.createTempDirectory("readme");
        String got = compile(directory, program) ? printed(directory) : "it can't be compiled";
        delete(directory);
        System.out.print(got.equals(due) ? "" : got);
        Checks.same("README.md's program prints what is said", got.equals(due), true);
        for (java.lang.reflect.Method call : SoftController.class.getDeclaredMethods()) {
            boolean open = java.lang.reflect.Modifier.isPublic(call.getModifiers());
            Checks.same("README.md tells of " + call.getName(), !open || readme.contains("`" + call.getName() + "`"), true);
        }
        Checks.close("ReadmeTest");
    }

    /** The first block of a language in a text. */
    private static String block(String text, String language) {
        String fence = "```" + language + "\n";
        int from = text.indexOf(fence) + fence.length();
        return text.substring(from, text.indexOf("```", from));
    }

    private static boolean compile(Path directory, String program) throws IOException {
        Path source = Files.writeString(directory.resolve("Example.java"), program);
        return ToolProvider.findFirst("javac").orElseThrow().run(System.out, System.out, "-d", directory.toString(), "-cp",
                System.getProperty("java.class.path"), source.toString()) == 0;
    }

    private static String printed(Path directory) throws Exception {
        ByteArrayOutputStream bytes = new ByteArrayOutputStream();
        PrintStream before = System.out;
        System.setOut(new PrintStream(bytes, true));
        try (URLClassLoader loader = new URLClassLoader(new URL[] {directory.toUri().toURL()}, ReadmeTest.class.getClassLoader())) {
            loader.loadClass("Example").getMethod("main", String[].class).invoke(null, (Object) new String[0]);
        } finally {
            System.setOut(before);
        }
        return bytes.toString().replace("\r\n", "\n");
    }

    private static void delete(Path directory) throws IOException {
        Files.deleteIfExists(directory.resolve("Example.java"));
        Files.deleteIfExists(directory.resolve("Example.class"));
        Files.deleteIfExists(directory);
    }
}
