import java.io.IOException;
import java.lang.reflect.Method;
import java.lang.reflect.Modifier;
import java.nio.file.Files;
import java.nio.file.Path;
import java.util.Set;
import java.util.TreeSet;
import java.util.regex.Matcher;
import java.util.regex.Pattern;
import javax.tools.ToolProvider;

/**
 * What README.md shows as the use of the class holds. Its calls are compiled as they stand there; of
 * each, the answer is asked, and the text and the scrap as README.md last named them.
 */
public final class ReadmeTest {
    private static final Path README = Path.of("README.md");
    private static final Path TESTS = Path.of("src/test/java");
    private static final String MADE = "TextLoom loom = new TextLoom();";
    private static final Pattern RUN = Pattern.compile("```java\n(.*?)```", Pattern.DOTALL);
    private static final Pattern CALL =
            Pattern.compile("(loom\\.(\\w+)\\(.*\\)); +// (.*)answers (-?\\d+|'.')");

    private static final Checks checks = new Checks();
    private static final Set<String> callsShown = new TreeSet<>();

    public static void main(String[] args) throws Exception {
        checks.about("README.md");
        String readme = Files.readString(README);
        String program = programOf(readme);
        checks.due("calls shown", callsShown, callsOfTheFace());
        namesEveryTest(readme);
        if (compiles(program)) {
            Class.forName("ReadmeUse").getDeclaredMethod("run", Checks.class).invoke(null, checks);
        }
        checks.end();
    }

    private static String programOf(String readme) {
        StringBuilder program = new StringBuilder("final class ReadmeUse {\nstatic void run(Checks checks) {\n");
        Matcher run = RUN.matcher(readme);
        while (run.find()) {
            program.append("{\n").append(codeOf(run.group(1).split("\n"))).append("}\n");
        }
        return program.append("}\n}\n").toString();
    }

    private static String codeOf(String[] lines) {
        checks.due("a run's first line", lines[0], MADE);
        StringBuilder code = new StringBuilder(MADE).append("\nString text = \"\", scrap = \"\";\nint calls = 0;\n");
        for (int k = 1; k < lines.length; k++) {
            Matcher call = CALL.matcher(lines[k]);
            checks.due(lines[k] + ": a call that says what it answers", call.matches(), true);
            if (call.matches()) {
                callsShown.add(call.group(2));
                code.append(codeOf(call.group(1), call.group(3), call.group(4)));
            }
        }
        return code.append("checks.due(\"calls within the 512\", calls <= 512, true);\n").toString();
    }

    private static String codeOf(String call, String says, String answer) {
        String shown = call.replace("\\", "\\\\").replace("\"", "\\\"");
        return "checks.due(\"" + shown + "\", " + call + ", (int) " + answer + ");\n"
                + named("text", says) + named("scrap", says)
                + "checks.dueState(\"after " + shown + "\", loom, text, scrap);\n"
                // The call itself, three looks at the state, and a reading of each sign.
                + "calls += 4 + text.length() + scrap.length();\n";
    }

    private static String named(String which, String says) {
        Matcher named = Pattern.compile("the " + which + " is (\".*?\")").matcher(says);
        return named.find() ? which + " = " + named.group(1) + ";\n" : "";
    }

    private static Set<String> callsOfTheFace() {
        Set<String> calls = new TreeSet<>();
        for (Method method : TextLoom.class.getDeclaredMethods()) {
            if (Modifier.isPublic(method.getModifiers())) {
                calls.add(method.getName());
            }
        }
        return calls;
    }

    private static void namesEveryTest(String readme) throws IOException {
        try (var files = Files.newDirectoryStream(TESTS, "*.java")) {
            for (Path file : files) {
                String name = file.getFileName().toString().replace(".java", "");
                checks.due(name + " named", readme.contains("`" + name + "`"), true);
            }
        }
    }

    /** Beside the other classes, since those of the tests are seen in their own package alone. */
    private static boolean compiles(String program) throws IOException {
        String classes = System.getProperty("java.class.path");
        Path file = Path.of(classes, "ReadmeUse.java");
        Files.writeString(file, program);
        int failed = ToolProvider.getSystemJavaCompiler().run(null, null, null,
                "-encoding", "UTF-8", "-cp", classes, "-d", classes, file.toString());
        checks.due("compiling what is shown", failed, 0);
        return failed == 0;
    }
}
