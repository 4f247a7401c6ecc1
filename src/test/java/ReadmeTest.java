import java.io.IOException;
import java.lang.reflect.Method;
import java.lang.reflect.Modifier;
import java.net.URL;
import java.net.URLClassLoader;
import java.nio.file.Files;
import java.nio.file.Path;
import java.util.ArrayList;
import java.util.Comparator;
import java.util.List;
import java.util.Map;
import java.util.TreeMap;
import java.util.regex.Matcher;
import java.util.regex.Pattern;
import java.util.stream.Stream;
import javax.tools.ToolProvider;

/** README.md: its example gives the answers that it tells, and its commands are those of .ci/run. */
public final class ReadmeTest {
    private static final Pattern BLOCK = Pattern.compile("(?ms)^```(\\w+)\n(.*?)^```$");
    private static final Pattern ANSWER = Pattern.compile("(int|boolean) (\\w+) = .*; +// (-?\\d+|true|false)(:.*)?");
    private static final Pattern RUN_ONE = Pattern.compile("java -cp build/(\\w+) (\\w+)");

    public static void main(String[] args) throws Exception {
        String readme = Files.readString(Path.of("README.md"));
        example(blocks(readme, "java"));
        commands(blocks(readme, "sh"));
        namesEveryCall(readme);
        namesEveryTest(readme);
        Checks.close();
    }

    private static List<String> blocks(String readme, String language) {
        List<String> found = new ArrayList<>();
        Matcher block = BLOCK.matcher(readme);
        while (block.find()) {
            if (block.group(1).equals(language)) {
                found.add(block.group(2));
            }
        }
        return found;
    }

    private static void example(List<String> blocks) throws Exception {
        StringBuilder functions = new StringBuilder();
        StringBuilder statements = new StringBuilder();
        Map<String, String> due = new TreeMap<>();
        for (String block : blocks) {
            if (block.startsWith("static ")) {
                functions.append(block);
            } else {
                addStatements(block, statements, due);
            }
        }
        Checks.same("README: answers that it tells", due.isEmpty(), false);
        Map<?, ?> got = compileAndRun("public final class Example {\n" + functions
                + "public static java.util.Map<String, String> run() {\n"
                + "java.util.Map<String, String> answers = new java.util.TreeMap<>();\n" + statements
                + "return answers;\n}\n}\n");
        for (String name : due.keySet()) {
            Checks.same("README: " + name + " is " + got.get(name) + ", it tells " + due.get(name),
                    due.get(name).equals(got.get(name)), true);
        }
    }

    private static void addStatements(String block, StringBuilder statements, Map<String, String> due) {
        for (String line : block.split("\n")) {
            statements.append(line).append('\n');
            Matcher answer = ANSWER.matcher(line);
            if (answer.matches()) {
                String name = answer.group(2);
                due.put(name, answer.group(3));
                statements.append("answers.put(\"" + name + "\", String.valueOf(" + name + "));\n");
            } else {
                Checks.same("README: a line without an answer: " + line,
                        line.isEmpty() || line.equals("NightShelter shelter = new NightShelter();"), true);
            }
        }
    }

    private static Map<?, ?> compileAndRun(String source) throws Exception {
        Path home = Files.createTempDirectory("readme");
        try {
            Path file = Files.writeString(home.resolve("Example.java"), source);
            int status = ToolProvider.getSystemJavaCompiler().run(null, null, null, "-cp",
                    System.getProperty("java.class.path"), "-d", home.toString(), file.toString());
            Checks.same("README: the example compiles", status, 0);
            return status == 0 ? runExample(home) : Map.of();
        } finally {
            remove(home);
        }
    }

    private static Map<?, ?> runExample(Path home) throws Exception {
        try (URLClassLoader loader = new URLClassLoader(new URL[] {home.toUri().toURL()})) {
            return (Map<?, ?>) loader.loadClass("Example").getMethod("run").invoke(null);
        }
    }

    private static void remove(Path home) throws IOException {
        try (Stream<Path> all = Files.walk(home)) {
            for (Path path : all.sorted(Comparator.reverseOrder()).toList()) {
                Files.delete(path);
            }
        }
    }

    private static void commands(List<String> blocks) throws IOException {
        String script = Files.readString(Path.of(".ci/run"));
        String plain = script.replace("\"$main\"", "src/main/java/NightShelter.java")
                .replace("\"$build/own\"", "build/own").replace("\"$build/$name\"", "build/NightShelterRuns")
                .replace("\"$file\"", "../shared/tests/NightShelterRuns.java");
        List<String> commands = List.of(String.join("", blocks).split("\n"));
        Checks.same("README: .ci/run is a command", commands.contains(".ci/run"), true);
        Checks.same(".ci/run can be run", Files.isExecutable(Path.of(".ci/run")), true);
        for (String command : commands) {
            Matcher one = RUN_ONE.matcher(command);
            if (one.matches()) {
                Checks.same("README: " + command + ": .ci/run has it", plain.contains("java -cp \"$2\" \"$1\""), true);
                Checks.same("README: " + command + ": there is such a test",
                        !one.group(1).equals("own") || Files.exists(testFile(one.group(2))), true);
            } else {
                Checks.same("README: " + command + ": .ci/run has it",
                        command.equals(".ci/run") || plain.contains(command), true);
            }
        }
    }

    private static Path testFile(String name) {
        return Path.of("src/test/java/" + name + ".java");
    }

    private static void namesEveryCall(String readme) {
        for (Method method : NightShelter.class.getDeclaredMethods()) {
            if (Modifier.isPublic(method.getModifiers())) {
                Checks.same("README: names " + method.getName(), readme.contains("`" + method.getName() + "`"), true);
            }
        }
    }

    private static void namesEveryTest(String readme) throws IOException {
        try (Stream<Path> files = Files.list(Path.of("src/test/java"))) {
            for (Path file : files.sorted().toList()) {
                String name = file.getFileName().toString().replace(".java", "");
                if (name.endsWith("Test")) {
                    Checks.same("README: names " + name, readme.contains("`" + name + "`"), true);
                }
            }
        }
    }
}
