import java.io.IOException;
import java.lang.reflect.InvocationTargetException;
import java.lang.reflect.Method;
import java.lang.reflect.Modifier;
import java.net.URL;
import java.net.URLClassLoader;
import java.nio.file.Files;
import java.nio.file.Path;
import java.util.ArrayList;
import java.util.List;
import java.util.Set;
import java.util.TreeSet;
import java.util.function.BiConsumer;
import java.util.regex.Matcher;
import java.util.regex.Pattern;
import javax.tools.JavaCompiler;
import javax.tools.ToolProvider;

/** README.md's example is compiled and run: each call in it answers the number that stands behind it. */
public final class ReadmeTest {
    private static final Checks CHECKS = new Checks("ReadmeTest");
    private static final String EXAMPLE = "ReadmeExample";
    private static final Pattern CALL_WITH_ANSWER = Pattern.compile(
            "\\s*(?:(int|long) (\\w+) = )?(x\\.\\w+\\(.*\\)); +// (-?\\d+)(?:: .+)?");

    /** A line of the example with a call, and the answer that README tells of it. */
    private record Line(String call, long told) {
    }

    public static void main(String[] args) throws Exception {
        String readme = Files.readString(Path.of("README.md"));
        List<String> code = codeOf(readme);
        List<Line> lines = new ArrayList<>();
        String program = programOf(code, lines);
        Set<Integer> answered = new TreeSet<>();
        runCompiled(program, (line, answer) -> {
            answered.add(line);
            CHECKS.due(lines.get(line).call(), answer, lines.get(line).told());
        });
        for (int line = 0; line < lines.size(); line++) {
            CHECKS.holds(lines.get(line).call() + " was run", answered.contains(line));
        }
        whatIsShown(lines);
        everyCallIsNamed(readme);
        CHECKS.holds("the command that runs the tests is told", readme.contains("    bash .ci/run\n"));
        CHECKS.finish();
    }

    private static List<String> codeOf(String readme) {
        List<String> code = new ArrayList<>();
        Matcher block = Pattern.compile("(?s)```java\n(.*?)```").matcher(readme);
        while (block.find()) {
            code.addAll(List.of(block.group(1).split("\n")));
        }
        CHECKS.holds("README has an example", !code.isEmpty());
        return code;
    }

    /** The example as a class that tells the answer of each of its lines; a line without a call stays as it is. */
    private static String programOf(List<String> code, List<Line> lines) {
        StringBuilder program = new StringBuilder("public final class " + EXAMPLE + " {\n"
                + "    public static void run(java.util.function.BiConsumer<Integer, Long> answers) {\n");
        for (String line : code) {
            Matcher matcher = CALL_WITH_ANSWER.matcher(line);
            if (!matcher.matches()) {
                CHECKS.holds("the answer is told: " + line, !line.contains("x."));
                program.append(line).append('\n');
                continue;
            }
            String answer = matcher.group(3);
            if (matcher.group(2) != null) {
                program.append(matcher.group(1) + " " + matcher.group(2) + " = " + answer + ";\n");
                answer = matcher.group(2);
            }
            program.append("answers.accept(" + lines.size() + ", (long) " + answer + ");\n");
            lines.add(new Line(matcher.group(3), Long.parseLong(matcher.group(4))));
        }
        return program.append("    }\n}\n").toString();
    }

    private static void runCompiled(String program, BiConsumer<Integer, Long> answers) throws Exception {
        Path place = Files.createTempDirectory("readme");
        Path file = place.resolve(EXAMPLE + ".java");
        Path compiled = place.resolve(EXAMPLE + ".class");
        try {
            Files.writeString(file, program);
            JavaCompiler compiler = ToolProvider.getSystemJavaCompiler();
            int bad = compiler.run(null, null, null, "-cp", System.getProperty("java.class.path"), file.toString());
            CHECKS.holds("the example compiles", bad == 0);
            if (bad == 0) {
                runIn(place, answers);
            }
        } finally {
            Files.deleteIfExists(compiled);
            Files.deleteIfExists(file);
            Files.deleteIfExists(place);
        }
    }

    private static void runIn(Path place, BiConsumer<Integer, Long> answers) throws IOException, ReflectiveOperationException {
        try (URLClassLoader loader = new URLClassLoader(new URL[] {place.toUri().toURL()})) {
            loader.loadClass(EXAMPLE).getMethod("run", BiConsumer.class).invoke(null, answers);
        } catch (InvocationTargetException e) {
            CHECKS.holds("nothing is thrown, but was " + e.getCause(), false);
        }
    }

    private static void whatIsShown(List<Line> lines) {
        for (String call : new String[] {"x.band(", "x.bandOf(", "x.pieces(", "x.hooks("}) {
            CHECKS.holds("shown: " + call, lines.stream().anyMatch(line -> line.call().startsWith(call)));
        }
        CHECKS.holds("shown: a refusal", lines.stream().anyMatch(
                line -> line.call().startsWith("x.on(") && line.told() == -1));
        CHECKS.holds("shown: where it is counted", lines.stream().anyMatch(
                line -> line.call().equals("x.status(11)") && line.told() == 1));
    }

    private static void everyCallIsNamed(String readme) {
        for (Method method : DownTheMiddle.class.getDeclaredMethods()) {
            if (Modifier.isPublic(method.getModifiers())) {
                CHECKS.holds("README names " + method.getName(), readme.contains("`" + method.getName() + "`"));
            }
        }
    }
}
