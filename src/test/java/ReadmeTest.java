import java.io.IOException;
import java.lang.reflect.Method;
import java.lang.reflect.Modifier;
import java.net.URL;
import java.net.URLClassLoader;
import java.nio.file.Files;
import java.nio.file.Path;
import java.util.ArrayList;
import java.util.List;
import java.util.regex.Matcher;
import java.util.regex.Pattern;
import javax.tools.ToolProvider;

/** README.md: what it shows of calls and answers is what the class answers, and it shows every call. */
public final class ReadmeTest {
    private static final Due DUE = new Due("ReadmeTest");
    private static final Pattern BLOCK = Pattern.compile("```java\n(.*?)```", Pattern.DOTALL);
    private static final Pattern CALL = Pattern.compile("(\\S.*\\)); +// (-?\\d+): .+");

    /** The README's own methods, then its lines one behind the other, as they stand. */
    private final StringBuilder methods = new StringBuilder();
    private final StringBuilder lines = new StringBuilder();
    private final List<String> calls = new ArrayList<>();
    private final List<Long> answers = new ArrayList<>();

    public static void main(String[] args) throws Exception {
        String readme = Files.readString(Path.of("README.md"));
        ReadmeTest test = new ReadmeTest();
        test.read(readme);
        test.compare();
        test.everyCallIsShown();
        everyTestIsNamed(readme);
        DUE.end();
    }

    private void read(String readme) {
        Matcher block = BLOCK.matcher(readme);
        while (block.find()) {
            if (block.group(1).startsWith("static ")) {
                methods.append(block.group(1));
            } else {
                block.group(1).lines().forEach(this::readLine);
            }
        }
    }

    private void readLine(String line) {
        Matcher call = CALL.matcher(line);
        if (call.matches()) {
            lines.append("got.add((long) ").append(call.group(1)).append(");\n");
            calls.add(call.group(1));
            answers.add(Long.valueOf(call.group(2)));
        } else {
            lines.append(line).append('\n');
            DUE.is("a line without an answer: " + line, 1, line.startsWith("DoorsOneSide x = ") ? 1 : 0);
        }
    }

    private void compare() throws Exception {
        Path dir = Files.createTempDirectory("readme");
        List<?> got = made(dir);
        DUE.is("calls that were made", calls.size(), got.size());
        for (int i = 0; i < Math.min(calls.size(), got.size()); i++) {
            DUE.is("README: " + calls.get(i), answers.get(i), (Long) got.get(i));
        }
    }

    /** The calls are compiled as they stand, so that the README is Java too. */
    private List<?> made(Path dir) throws Exception {
        Path source = dir.resolve("Shown.java");
        try {
            Files.writeString(source, "public class Shown {\n" + methods + "public static java.util.List<Long> got() {\n"
                + "java.util.List<Long> got = new java.util.ArrayList<>();\n" + lines + "return got;\n}\n}\n");
            String path = System.getProperty("java.class.path");
            int failed = ToolProvider.getSystemJavaCompiler()
                .run(null, null, null, "-cp", path, "-d", dir.toString(), source.toString());
            DUE.is("the README's Java is compiled", 0, failed);
            if (failed != 0) {
                return List.of();
            }
            try (URLClassLoader loader = new URLClassLoader(new URL[] {dir.toUri().toURL()})) {
                return (List<?>) loader.loadClass("Shown").getMethod("got").invoke(null);
            }
        } finally {
            Files.deleteIfExists(dir.resolve("Shown.class"));
            Files.deleteIfExists(source);
            Files.deleteIfExists(dir);
        }
    }

    private void everyCallIsShown() {
        String shown = methods + String.join("\n", calls);
        for (Method m : DoorsOneSide.class.getDeclaredMethods()) {
            if (Modifier.isPublic(m.getModifiers())) {
                DUE.is("README shows " + m.getName(), 1, shown.contains("." + m.getName() + "(") ? 1 : 0);
            }
        }
    }

    private static void everyTestIsNamed(String readme) throws IOException {
        try (var files = Files.list(Path.of("src/test/java"))) {
            for (Path file : (Iterable<Path>) files::iterator) {
                String name = file.getFileName().toString().replace(".java", "");
                DUE.is("README names " + name, 1, readme.contains("`" + name + "`") ? 1 : 0);
            }
        }
    }
}
