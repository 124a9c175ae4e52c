import java.io.ByteArrayOutputStream;
import java.io.IOException;
import java.io.PrintStream;
import java.net.URL;
import java.net.URLClassLoader;
import java.nio.file.Files;
import java.nio.file.Path;
import javax.tools.ToolProvider;

/** The example of README.md: it compiles, and prints what README.md says. */
public final class ReadmeTest {
    public static void main(String[] args) throws Exception {
        String readme = Files.readString(Path.of("README.md"));
        String program = block(readme, "java");
        String wanted = block(readme, "text");
        Check.no("README.md has an example and what it prints: missing", program.isEmpty() || wanted.isEmpty());
        Path folder = Files.createTempDirectory("readme");
        Path source = folder.resolve("Example.java");
        try {
            Files.writeString(source, program);
            String classes = System.getProperty("java.class.path");
            int compiled = ToolProvider.getSystemJavaCompiler().run(null, null, null, "-cp", classes, "-d",
                folder.toString(), source.toString());
            Check.due("the example compiles", compiled, 0);
            String printed = compiled == 0 ? printedBy(folder) : "";
            Check.yes("the example prints '" + printed + "': that", printed.equals(wanted));
        } finally {
            clear(folder);
        }
        Check.end();
    }

    /** What stands in the first fenced block of a kind. */
    private static String block(String text, String kind) {
        String opening = "```" + kind + "\n";
        int start = text.indexOf(opening);
        int end = start < 0 ? -1 : text.indexOf("```", start + opening.length());
        return end < 0 ? "" : text.substring(start + opening.length(), end);
    }

    private static String printedBy(Path folder) throws Exception {
        PrintStream before = System.out;
        ByteArrayOutputStream printed = new ByteArrayOutputStream();
        try (URLClassLoader loader = new URLClassLoader(new URL[] {folder.toUri().toURL()})) {
            System.setOut(new PrintStream(printed, true));
            loader.loadClass("Example").getMethod("main", String[].class).invoke(null, (Object) new String[0]);
        } finally {
            System.setOut(before);
        }
        return printed.toString().replace(System.lineSeparator(), "\n");
    }

    private static void clear(Path folder) throws IOException {
        Path[] files;
        try (var found = Files.list(folder)) {
            files = found.toArray(Path[]::new);
        }
        for (Path file : files) {
            Files.delete(file);
        }
        Files.delete(folder);
    }
}
