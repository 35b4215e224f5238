import java.io.ByteArrayOutputStream;
import java.io.IOException;
import java.io.PrintStream;
import java.net.URL;
import java.net.URLClassLoader;
import java.nio.file.Files;
import java.nio.file.Path;
import java.util.ArrayList;
import java.util.List;
import java.util.regex.Matcher;
import java.util.regex.Pattern;
import javax.tools.JavaCompiler;
import javax.tools.ToolProvider;

/** The example of README.md compiles, and each of its lines prints what its comment says. */
public final class ReadmeTest {
    private static final Pattern EXAMPLE = Pattern.compile("(?s)```java\n(.*?)```");
    private static final Pattern PRINTS =
        Pattern.compile("System\\.out\\.println\\((.*)\\);\\s*// (-?\\d+)");

    public static void main(String[] args) throws Exception {
        Matcher example = EXAMPLE.matcher(Files.readString(Path.of("README.md")));
        Check.so("README.md has an example", example.find());
        String code = example.group(1);
        String[] printed = printedBy(code).split("\\R");
        List<String> calls = new ArrayList<>();
        List<Long> told = new ArrayList<>();
        Matcher prints = PRINTS.matcher(code);
        while (prints.find()) {
            calls.add(prints.group(1));
            told.add(Long.parseLong(prints.group(2)));
        }
        Check.due("lines printed", printed.length, told.size());
        for (int i = 0; i < told.size() && i < printed.length; i++) {
            Check.due("README.md: " + calls.get(i), Long.parseLong(printed[i]), told.get(i));
        }
        Check.end();
    }

    private static String printedBy(String code) throws Exception {
        Path place = Files.createTempDirectory("readme");
        try {
            compile(code, place);
            return run(place);
        } finally {
            remove(place);
        }
    }

    private static void compile(String code, Path place) throws IOException {
        Path file = Files.writeString(place.resolve("Example.java"), code);
        JavaCompiler compiler = ToolProvider.getSystemJavaCompiler();
        Check.due("compiling the example", compiler.run(null, null, null, "--release", "17",
            "-cp", System.getProperty("java.class.path"), "-d", place.toString(),
            file.toString()), 0);
    }

    private static String run(Path place) throws Exception {
        PrintStream usual = System.out;
        ByteArrayOutputStream printed = new ByteArrayOutputStream();
        try (URLClassLoader loader = new URLClassLoader(new URL[] {place.toUri().toURL()})) {
            System.setOut(new PrintStream(printed, true));
            loader.loadClass("Example").getMethod("main", String[].class)
                .invoke(null, (Object) new String[0]);
        } finally {
            System.setOut(usual);
        }
        return printed.toString();
    }

    private static void remove(Path place) throws IOException {
        try (var files = Files.list(place)) {
            for (Path file : files.toList()) {
                Files.delete(file);
            }
        }
        Files.delete(place);
    }
}
