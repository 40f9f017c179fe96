import java.io.IOException;
import java.lang.reflect.InvocationTargetException;
import java.lang.reflect.Method;
import java.lang.reflect.Modifier;
import java.net.URL;
import java.net.URLClassLoader;
import java.nio.file.Files;
import java.nio.file.Path;
import java.util.Comparator;
import java.util.List;
import java.util.regex.Matcher;
import java.util.regex.Pattern;
import java.util.stream.Stream;
import javax.tools.ToolProvider;

/** README.md tells how to use the class: its example is compiled and run, and it names each call and each test. */
public final class ReadmeTests {
    private static final Path README = Path.of("README.md");
    private static final Path TESTS = Path.of("src/test/java");
    private static final Pattern BLOCK = Pattern.compile("(?s)```java\\n(.*?)```");
    private static final Pattern TOLD = Pattern.compile("(?m)^(x\\.(\\w+)\\(.*\\)); +// (-?\\d+|BAD|NO|FULL|NONE): .*$");
    private static final Pattern LOOKED_AT = Pattern.compile("(?m)^x\\.");

    private static int checks = 0;
    private static int wrong = 0;

    public static void main(String[] args) throws Exception {
        String readme = Files.readString(README);
        theExample(readme);
        everyCall(readme);
        everyTest(readme);
        hold(readme.contains("`.ci/run`") && Files.isExecutable(Path.of(".ci/run")), "how to run the tests");
        System.out.println("ReadmeTests: " + checks + " tellings, " + wrong + " wrong");
        if (wrong != 0) {
            System.exit(1);
        }
    }

    /** The example below calls this for each line that tells an answer. */
    public static void due(String call, int got, int want) {
        hold(got == want, call + " answers " + got + ", the page says " + want);
    }

    private static void hold(boolean right, String what) {
        checks++;
        if (!right) {
            wrong++;
            System.out.println("README: " + what);
        }
    }

    private static void theExample(String readme) throws Exception {
        Matcher block = BLOCK.matcher(readme);
        hold(block.find(), "an example");
        String example = block.group(1);
        long calls = LOOKED_AT.matcher(example).results().count();
        hold(calls > 0 && calls == TOLD.matcher(example).results().count(), "each call of the example tells its answer");
        run(TOLD.matcher(example).replaceAll(told -> Matcher.quoteReplacement(
            "ReadmeTests.due(\"" + told.group(1) + "\", " + told.group(1) + ", " + numberOf(told.group(3)) + ");")));
    }

    private static String numberOf(String answer) {
        return Character.isLetter(answer.charAt(0)) ? "LastCallersWord." + answer : answer;
    }

    private static void run(String body) throws Exception {
        Path place = Files.createTempDirectory("readme");
        try {
            Path source = place.resolve("Example.java");
            Files.writeString(source, "public final class Example { public static void show() {\n" + body + "\n} }\n");
            String classes = System.getProperty("java.class.path");
            int failed = ToolProvider.getSystemJavaCompiler().run(null, null, null,
                "-proc:none", "-cp", classes, "-d", place.toString(), source.toString());
            hold(failed == 0, "the example compiles");
            if (failed == 0) {
                show(place);
            }
        } finally {
            remove(place);
        }
    }

    private static void show(Path place) throws Exception {
        int before = checks;
        try (URLClassLoader loader = new URLClassLoader(new URL[] {place.toUri().toURL()})) {
            loader.loadClass("Example").getMethod("show").invoke(null);
        } catch (InvocationTargetException thrown) {
            hold(false, "the example throws " + thrown.getCause());
        }
        hold(checks > before, "the example was run");
    }

    private static void remove(Path place) throws IOException {
        try (Stream<Path> found = Files.walk(place)) {
            List<Path> inward = found.sorted(Comparator.reverseOrder()).toList();
            for (Path path : inward) {
                Files.delete(path);
            }
        }
    }

    private static void everyCall(String readme) {
        for (Method method : LastCallersWord.class.getDeclaredMethods()) {
            if (Modifier.isPublic(method.getModifiers())) {
                int many = method.getParameterCount();
                String call = "`" + method.getName() + "\\(" + (many == 0 ? "" : "\\w+" + ", \\w+".repeat(many - 1)) + "\\)`";
                hold(Pattern.compile(call).matcher(readme).find(), "the page does not name " + method.getName());
            }
        }
    }

    private static void everyTest(String readme) throws IOException {
        try (Stream<Path> files = Files.list(TESTS)) {
            for (Path file : files.toList()) {
                if (Files.readString(file).contains("public static void main")) {
                    hold(readme.contains(file.getFileName().toString()), "the page does not name " + file.getFileName());
                }
            }
        }
        hold(readme.contains("../shared/tests"), "the page does not name ../shared/tests");
    }
}
