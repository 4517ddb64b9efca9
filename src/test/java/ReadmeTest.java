import java.io.IOException;
import java.lang.reflect.Method;
import java.lang.reflect.Modifier;
import java.net.URL;
import java.net.URLClassLoader;
import java.nio.file.Files;
import java.nio.file.Path;
import java.util.ArrayList;
import java.util.List;
import java.util.regex.Matcher;
import java.util.regex.Pattern;
import java.util.stream.Stream;
import javax.tools.JavaCompiler;
import javax.tools.ToolProvider;

/**
 * README.md: its Java lines compile as they stand and answer what stands behind
 * "->"; they show every call; it names .ci/run and every test. Runs from the
 * directory that README.md is in.
 */
public final class ReadmeTest {
    private static final Path README = Path.of("README.md");
    private static final Path TESTS = Path.of("src/test/java");
    /** A call, perhaps kept in a variable, and its answer up to a comma or the line's end. */
    private static final Pattern ANSWERED =
            Pattern.compile("(?:(\\w+ )(\\w+) = )?(.*);\\s*// -> ([^,]+)(?:,.*)?");

    private static final Check check = new Check();

    public static void main(String[] args) throws IOException, ReflectiveOperationException {
        List<String> readme = Files.readAllLines(README);
        List<String> lines = block(readme, "```java");
        showsEveryCall(lines);
        answersAsItSays(lines);
        namesTheCommand(block(readme, "```sh"));
        namesEveryTest(readme);
        check.end();
    }

    /** The lines of all blocks of a kind: later ones go on with the names of the first. */
    private static List<String> block(List<String> readme, String head) {
        List<String> lines = new ArrayList<>();
        boolean inside = false;
        for (String line : readme) {
            if (line.startsWith("```")) {
                inside = line.equals(head);
            } else if (inside) {
                lines.add(line);
            }
        }
        return lines;
    }

    private static void showsEveryCall(List<String> lines) {
        String shown = String.join("\n", lines);
        for (Method method : EdgeWear.class.getDeclaredMethods()) {
            if (Modifier.isPublic(method.getModifiers())) {
                check.due("shows " + method.getName(), true,
                        () -> shown.contains("shop." + method.getName() + "("));
            }
        }
    }

    private static void answersAsItSays(List<String> lines)
            throws IOException, ReflectiveOperationException {
        List<Matcher> answered = new ArrayList<>();
        StringBuilder asking = new StringBuilder();
        for (String line : lines) {
            Matcher matcher = ANSWERED.matcher(line);
            if (matcher.matches()) {
                answered.add(matcher);
                asking.append(asked(matcher));
            } else {
                check.due("a form that is not looked at: " + line, false, () -> line.contains("->"));
                asking.append(line).append('\n');
            }
        }
        List<?> answers = run(String.join("\n", lines), asking.toString());
        check.due("how many answers", answered.size(), answers::size);
        for (int i = 0; i < answers.size(); i++) {
            Matcher line = answered.get(i);
            check.same(line.group(3), line.group(4).trim(), String.valueOf(answers.get(i)));
        }
    }

    private static String asked(Matcher line) {
        String type = line.group(1);
        String name = line.group(2);
        String call = line.group(3);
        if (type != null) {
            return type + name + " = " + call + "; told.add(String.valueOf(" + name + "));\n";
        }
        return "try { told.add(String.valueOf(" + call + ")); }\n"
                + "catch (RuntimeException e) { told.add(\"throws \" + e.getClass().getSimpleName()); }\n";
    }

    /** Compiles the lines as they stand beside those that ask, and runs the latter. */
    private static List<?> run(String asItStands, String asking)
            throws IOException, ReflectiveOperationException {
        Path made = Files.createTempDirectory("readme");
        Path source = made.resolve("ReadmeUse.java");
        try {
            Files.writeString(source, "public final class ReadmeUse {\n"
                    + "public static void asItStands() {\n" + asItStands + "\n}\n"
                    + "public static java.util.List<String> answers() {\n"
                    + "java.util.List<String> told = new java.util.ArrayList<>();\n"
                    + asking + "return told;\n}\n}\n");
            JavaCompiler compiler = ToolProvider.getSystemJavaCompiler();
            int code = compiler.run(null, null, null, "--release", "17", "-d", made.toString(),
                    "-cp", System.getProperty("java.class.path"), source.toString());
            check.due("README.md's lines compile", 0, () -> code);
            if (code != 0) {
                return List.of();
            }
            try (URLClassLoader loader = new URLClassLoader(new URL[] {made.toUri().toURL()})) {
                return (List<?>) loader.loadClass("ReadmeUse").getMethod("answers").invoke(null);
            }
        } finally {
            Files.deleteIfExists(source);
            Files.deleteIfExists(made.resolve("ReadmeUse.class"));
            Files.deleteIfExists(made);
        }
    }

    private static void namesTheCommand(List<String> lines) {
        check.due("the first command is .ci/run", ".ci/run", () -> lines.get(0));
        check.due("it can be run", true, () -> Files.isExecutable(Path.of(".ci/run")));
    }

    private static void namesEveryTest(List<String> readme) throws IOException {
        try (Stream<Path> files = Files.list(TESTS)) {
            files.map(file -> file.getFileName().toString())
                    .filter(name -> name.endsWith("Test.java"))
                    .map(name -> "| `" + name.substring(0, name.length() - ".java".length()) + "` |")
                    .forEach(row -> check.due("names " + row, true,
                            () -> readme.stream().anyMatch(line -> line.startsWith(row))));
        }
    }
}
