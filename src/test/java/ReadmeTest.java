import java.io.IOException;
import java.lang.reflect.Method;
import java.lang.reflect.Modifier;
import java.nio.charset.StandardCharsets;
import java.nio.file.Files;
import java.nio.file.LinkOption;
import java.nio.file.Path;
import java.nio.file.Paths;
import java.util.ArrayList;
import java.util.List;
import java.util.Set;
import java.util.TreeSet;
import java.util.regex.Matcher;
import java.util.regex.Pattern;
import java.util.stream.Stream;

/**
 * Each call that README.md shows answers what stands behind it, each command there runs, and no call of the face and
 * no test is left out. The commands run beside a MyLog.java that is made of the calls, so they also compile and run it.
 */
public final class ReadmeTest {
    private static final Path SOURCES = Paths.get("src");
    private static final Path TESTS = Paths.get("src/test/java");
    /** Stands for the project's folder, so that nothing is written beside the sources. */
    private static final Path FOLDER = Paths.get("build/readme");
    private static final String ALL_TESTS = ".ci/run";

    /** A call, and behind it a number or the name of a constant, and then what that is. */
    private static final Pattern ANSWERED = Pattern.compile("(log\\.(\\w+)\\(.*\\)); +// (-?[0-9.]+|[A-Z_]+): .+");

    private final Check check = new Check("readme");
    private final List<String> lines;

    private ReadmeTest() throws IOException {
        lines = Files.readAllLines(Paths.get("README.md"), StandardCharsets.UTF_8);
    }

    public static void main(String[] args) throws IOException, InterruptedException {
        ReadmeTest test = new ReadmeTest();
        test.calls();
        test.commands();
        test.tests();
        test.check.end();
    }

    private void calls() throws IOException {
        Set<String> shown = new TreeSet<>();
        StringBuilder body = new StringBuilder();
        for (String line : blocks("java")) {
            Matcher matcher = ANSWERED.matcher(line);
            boolean answered = matcher.matches();
            check.isTrue("no answer stands behind: " + line, answered || !line.startsWith("log."));
            if (answered) {
                shown.add(matcher.group(2));
                body.append("due(").append(quoted(line)).append(", ").append(matcher.group(1)).append(", ")
                    .append(answer(matcher.group(3))).append(");\n");
            } else {
                body.append(line).append('\n');
            }
        }
        for (Method method : DittoLog.class.getDeclaredMethods()) {
            check.isTrue("no call is shown of " + method,
                !Modifier.isPublic(method.getModifiers()) || shown.contains(method.getName())
                    || body.indexOf("log." + method.getName() + "(") >= 0);
        }
        Files.createDirectories(FOLDER);
        Files.write(FOLDER.resolve("MyLog.java"), program(body.toString()).getBytes(StandardCharsets.UTF_8));
    }

    private static String quoted(String line) {
        return '"' + line.replace("\\", "\\\\").replace("\"", "\\\"") + '"';
    }

    private static String answer(String shown) {
        return Character.isUpperCase(shown.charAt(0)) ? "DittoLog." + shown : shown;
    }

    private static String program(String body) {
        return "public final class MyLog {\n"
            + "private static boolean right = true;\n"
            + "private static void due(String call, double got, double want) {\n"
            + "if (got != want) {\nright = false;\nSystem.out.println(call + \" - but it answers \" + got);\n}\n}\n"
            + "public static void main(String[] args) {\n"
            + body
            + "System.exit(right ? 0 : 1);\n}\n}\n";
    }

    private void commands() throws IOException, InterruptedException {
        Path link = FOLDER.resolve("src");
        if (!Files.exists(link, LinkOption.NOFOLLOW_LINKS)) {
            Files.createSymbolicLink(link, SOURCES.toAbsolutePath());
        }
        List<String> commands = blocks("sh");
        check.isTrue("README.md tells how all tests are run", commands.contains(ALL_TESTS));
        check.isTrue("MyLog is run", commands.contains("java -cp build/mine MyLog"));
        for (String command : commands) {
            if (command.equals(ALL_TESTS)) {
                // It runs this test, so it can't be run from here.
                check.isTrue(command + " can be run", Files.isExecutable(Paths.get(ALL_TESTS)));
            } else {
                runs(command);
            }
        }
    }

    private void runs(String command) throws IOException, InterruptedException {
        Process process = new ProcessBuilder("sh", "-c", command).directory(FOLDER.toFile())
            .redirectErrorStream(true).start();
        String told = new String(process.getInputStream().readAllBytes(), StandardCharsets.UTF_8);
        check.isTrue("the command fails: " + command + "\n" + told, process.waitFor() == 0);
    }

    private void tests() throws IOException {
        Set<String> there = new TreeSet<>();
        try (Stream<Path> files = Files.list(TESTS)) {
            files.map(file -> file.getFileName().toString()).filter(name -> name.endsWith("Test.java"))
                .forEach(name -> there.add(name.replace(".java", "")));
        }
        Set<String> named = new TreeSet<>();
        for (String line : lines) {
            Matcher row = Pattern.compile("\\| `(\\w+)` \\|.*").matcher(line);
            if (row.matches()) {
                named.add(row.group(1));
            }
        }
        check.isTrue("README.md names the tests " + named + ", there are " + there, named.equals(there));
    }

    /** The lines between "```" with the language behind it and the next "```", of all such places. */
    private List<String> blocks(String language) {
        List<String> found = new ArrayList<>();
        String inside = null;
        for (String line : lines) {
            if (line.startsWith("```")) {
                inside = inside == null ? line.substring(3) : null;
            } else if (language.equals(inside)) {
                found.add(line);
            }
        }
        check.isTrue("README.md has lines of " + language, !found.isEmpty());
        return found;
    }
}
