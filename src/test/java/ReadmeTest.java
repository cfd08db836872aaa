import java.io.IOException;
import java.io.OutputStream;
import java.lang.reflect.Method;
import java.lang.reflect.Modifier;
import java.net.URL;
import java.net.URLClassLoader;
import java.nio.file.Files;
import java.nio.file.Path;
import java.util.ArrayList;
import java.util.List;
import java.util.regex.MatchResult;
import java.util.regex.Pattern;
import java.util.stream.Stream;
import javax.tools.ToolProvider;

/** README.md's Java is compiled and run: every call there answers the number that stands behind it. */
public final class ReadmeTest {
    private static final Pattern BLOCK = Pattern.compile("(?s)```java\n(.*?)```");
    private static final Pattern TOLD = Pattern.compile("^((?:x\\.|read\\().*\\));\\s*// (-?\\d+)(?::.*)?$");

    private final List<String> calls = new ArrayList<>();
    private final List<Long> due = new ArrayList<>();

    private ReadmeTest() {
    }

    public static void main(String[] args) throws IOException, ReflectiveOperationException {
        String readme = Files.readString(Path.of("README.md"));
        List<String> blocks = BLOCK.matcher(readme).results().map(m -> m.group(1)).toList();
        Check.due("blocks of Java", blocks.size(), 2);
        if (blocks.size() == 2) {
            ReadmeTest test = new ReadmeTest();
            test.compare(test.program(blocks.get(0), blocks.get(1)));
        }
        everyCallIsNamed(readme);
        everyTestIsNamed(readme);
        Check.finish("ReadmeTest");
    }

    /** A class whose answers() are those of the calls, in their order. */
    private String program(String helper, String evening) {
        StringBuilder body = new StringBuilder();
        for (String line : evening.split("\n")) {
            List<MatchResult> told = TOLD.matcher(line).results().toList();
            if (told.isEmpty()) {
                Check.due("no answer is told: " + line, line.isEmpty() || line.startsWith("ColdRing x") ? 1 : 0, 1);
                body.append(line).append('\n');
                continue;
            }
            String call = told.get(0).group(1);
            body.append("answers[").append(calls.size()).append("] = ").append(call).append(";\n");
            calls.add(call);
            due.add(Long.parseLong(told.get(0).group(2)));
        }
        return "public final class Readme {\n" + helper + "public static long[] answers() {\nlong[] answers = new long["
            + calls.size() + "];\n" + body + "return answers;\n}\n}\n";
    }

    private void compare(String program) throws IOException, ReflectiveOperationException {
        Path home = Files.createTempDirectory("readme");
        try {
            Path file = home.resolve("Readme.java");
            Files.writeString(file, program);
            int failed = ToolProvider.getSystemJavaCompiler().run(null, OutputStream.nullOutputStream(), System.out,
                "-cp", System.getProperty("java.class.path"), "-d", home.toString(), file.toString());
            Check.due("README's Java compiles", failed, 0);
            if (failed == 0) {
                compare(home);
            }
        } finally {
            try (Stream<Path> files = Files.list(home)) {
                for (Path file : files.toList()) {
                    Files.delete(file);
                }
            }
            Files.delete(home);
        }
    }

    private void compare(Path home) throws IOException, ReflectiveOperationException {
        try (URLClassLoader loader = new URLClassLoader(new URL[] {home.toUri().toURL()})) {
            long[] answers = (long[]) loader.loadClass("Readme").getMethod("answers").invoke(null);
            for (int i = 0; i < answers.length; i++) {
                Check.due("README: " + calls.get(i), answers[i], due.get(i));
            }
        }
    }

    private static void everyCallIsNamed(String readme) {
        for (Method m : ColdRing.class.getDeclaredMethods()) {
            if (Modifier.isPublic(m.getModifiers())) {
                Check.due(m.getName() + " is named", readme.contains("`" + m.getName() + "`") ? 1 : 0, 1);
            }
        }
    }

    private static void everyTestIsNamed(String readme) throws IOException {
        try (Stream<Path> files = Files.list(Path.of("src/test/java"))) {
            for (Path file : files.toList()) {
                String name = file.getFileName().toString().replace(".java", "");
                Check.due(name + " is named", readme.contains("`" + name + "`") ? 1 : 0, 1);
            }
        }
    }
}
