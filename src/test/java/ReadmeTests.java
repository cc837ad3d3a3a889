import java.io.IOException;
import java.net.URL;
import java.net.URLClassLoader;
import java.nio.file.Files;
import java.nio.file.Path;
import java.util.ArrayList;
import java.util.List;
import java.util.regex.Matcher;
import java.util.regex.Pattern;
import javax.tools.ToolProvider;

/** The examples of README.md are compiled as one program: each call must answer what the comment behind it says. */
public final class ReadmeTests {
    private static final Path README = Path.of("README.md");
    private static final String EXAMPLE = "ReadmeExample";
    private static final int MOST_CALLS = 512;
    private static final Pattern BLOCK = Pattern.compile("(?s)```java\n(.*?)```");
    private static final Pattern CALL = Pattern.compile("(desk\\.\\w+\\(.*\\)); *// (-?\\d+|[A-Z]+)(:.*)?");
    private static final Pattern FREE = Pattern.compile("|//.*|(WordGrid|long) \\w+ = .*;");
    /** What the text must tell beside the examples. */
    private static final String[] TOLD = {"| -1 | `BAD` |", "| -2 | `STATE` |", "| -3 | `FULL` |", "| -4 | `SPENT` |",
        "| -5 | `NONE` |", "| -11 | NOTHING, finding 1 |", "| -12 | BEYOND, finding 2 |", "| -13 | SORT, finding 3 |",
        "| -14 | SIZE, finding 4 |", "| -15 | ZERO, finding 5 |", "at most 512 calls", "```sh\n.ci/run\n```"};

    private final List<String> wrong = new ArrayList<>();
    private int calls;

    private String program(String readme) {
        StringBuilder code = new StringBuilder();
        code.append("public final class ").append(EXAMPLE).append(" {\n");
        code.append("    private static void due(java.util.List<String> wrong, String line, long got, long want) {\n");
        code.append("        if (got != want) { wrong.add(line + \" -- it answers \" + got); }\n    }\n");
        code.append("    public static void run(java.util.List<String> wrong) {\n");
        Matcher block = BLOCK.matcher(readme);
        while (block.find()) {
            for (String line : block.group(1).split("\n")) {
                code.append(statement(line)).append('\n');
            }
        }
        return code.append("    }\n}\n").toString();
    }

    private String statement(String line) {
        Matcher call = CALL.matcher(line);
        if (call.matches()) {
            calls++;
            String answer = call.group(2);
            String due = Character.isLetter(answer.charAt(0)) ? "WordGrid." + answer : answer + "L";
            String quoted = line.replace("\\", "\\\\").replace("\"", "\\\"");
            return "        due(wrong, \"" + quoted + "\", " + call.group(1) + ", " + due + ");";
        }
        if (!FREE.matcher(line).matches()) {
            wrong.add("an example without an answer: " + line);
        }
        return line;
    }

    private void run(String code) throws IOException, ReflectiveOperationException {
        Path place = Files.createTempDirectory("readme");
        Path source = place.resolve(EXAMPLE + ".java");
        Path compiled = place.resolve(EXAMPLE + ".class");
        try {
            Files.writeString(source, code);
            int failed = ToolProvider.getSystemJavaCompiler().run(null, null, null, "-d", place.toString(),
                "-cp", System.getProperty("java.class.path"), source.toString());
            if (failed != 0) {
                wrong.add("the examples do not compile");
                return;
            }
            try (URLClassLoader loader = new URLClassLoader(new URL[] {place.toUri().toURL()})) {
                loader.loadClass(EXAMPLE).getMethod("run", List.class).invoke(null, wrong);
            }
        } finally {
            Files.deleteIfExists(compiled);
            Files.deleteIfExists(source);
            Files.deleteIfExists(place);
        }
    }

    private void check(String readme) throws IOException, ReflectiveOperationException {
        for (String text : TOLD) {
            if (!readme.contains(text)) {
                wrong.add("it does not tell: " + text);
            }
        }
        run(program(readme));
        if (calls == 0 || calls > MOST_CALLS) {
            wrong.add("the examples have " + calls + " calls");
        }
    }

    public static void main(String[] args) throws IOException, ReflectiveOperationException {
        ReadmeTests tests = new ReadmeTests();
        tests.check(Files.readString(README));
        for (String line : tests.wrong) {
            System.out.println("README.md: " + line);
        }
        if (!tests.wrong.isEmpty()) {
            System.exit(1);
        }
        System.out.println("ReadmeTests: " + tests.calls + " calls answer as README.md says");
    }
}
