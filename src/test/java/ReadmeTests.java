import java.io.IOException;
import java.lang.reflect.Method;
import java.lang.reflect.Modifier;
import java.nio.file.Files;
import java.nio.file.Path;
import java.util.ArrayList;
import java.util.List;
import java.util.Set;
import java.util.TreeSet;
import java.util.regex.Matcher;
import java.util.regex.Pattern;
import java.util.stream.Stream;

/** README.md: its commands work as they are written there, and what it says of the example and the tests holds. */
public final class ReadmeTests {
    private static final Path PAGE = Path.of("README.md");
    private static final Path EXAMPLE = Path.of("src/example/java/Example.java");
    private static final Path TESTS = Path.of("src/test/java");
    // This test is one of those that it runs, so it is not run from here.
    private static final String ALL_TESTS = ".ci/run";

    public static void main(String[] args) throws IOException, InterruptedException {
        commandsWork();
        exampleIsThatOfThePage();
        eachCallIsNamed();
        eachTestIsNamed();
        eachPathIsThere();
        Check.end();
    }

    private static void commandsWork() throws IOException, InterruptedException {
        List<String> commands = new ArrayList<>();
        for (String block : blocks("sh")) {
            commands.addAll(block.lines().toList());
        }
        Check.is("the page tells how to run all tests", commands.remove(ALL_TESTS));
        Check.is(ALL_TESTS + " can be run", Files.isExecutable(Path.of(ALL_TESTS)));
        Check.same("other commands", 4, commands.size());
        StringBuilder printed = new StringBuilder();
        for (String command : commands) {
            printed.append(printedBy(command));
        }
        Check.is("the example prints what the page says", printed.toString().contains(blocks("text").get(0)));
    }

    private static String printedBy(String command) throws IOException, InterruptedException {
        Process process = new ProcessBuilder("sh", "-c", command).redirectErrorStream(true).start();
        String printed = new String(process.getInputStream().readAllBytes());
        int code = process.waitFor();
        Check.is(command + " works, but it ended with " + code + ": " + printed + "that it", code == 0);
        return printed;
    }

    private static void exampleIsThatOfThePage() throws IOException {
        List<String> due = Files.readString(EXAMPLE).lines().map(String::strip).toList();
        for (String line : blocks("java").get(0).lines().toList()) {
            Check.is("the example has the line: " + line, due.contains(line));
        }
    }

    private static void eachCallIsNamed() throws IOException {
        Set<String> named = named("`(\\w+)`(?=[^|\\n]*\\|$)", part("## Use", "## Tests"));
        Set<String> due = new TreeSet<>();
        for (Method method : RumourPipes.class.getDeclaredMethods()) {
            if (Modifier.isPublic(method.getModifiers())) {
                due.add(method.getName());
            }
        }
        Check.is("calls " + named + " are those of the class " + due + "; that", named.equals(due));
    }

    private static void eachTestIsNamed() throws IOException {
        Set<String> named = named("^\\| `(\\w+)` \\|", part("## Tests", "A test compares"));
        Set<String> due = new TreeSet<>();
        try (Stream<Path> files = Files.list(TESTS)) {
            files.map(file -> file.getFileName().toString()).filter(name -> name.endsWith(".java"))
                .forEach(name -> due.add(name.substring(0, name.length() - ".java".length())));
        }
        Check.is("tests " + named + " are those of the project " + due + "; that", named.equals(due));
    }

    private static void eachPathIsThere() throws IOException {
        for (String path : named("`([\\w./]*/\\w[\\w./]*)`", Files.readString(PAGE))) {
            boolean there = Files.exists(Path.of(path)) || Files.exists(TESTS.resolve(path));
            Check.is(path + " is there", there);
        }
    }

    private static Set<String> named(String pattern, String text) {
        Set<String> found = new TreeSet<>();
        Matcher matcher = Pattern.compile(pattern, Pattern.MULTILINE).matcher(text);
        while (matcher.find()) {
            found.add(matcher.group(1));
        }
        return found;
    }

    private static List<String> blocks(String kind) throws IOException {
        List<String> found = new ArrayList<>();
        Matcher matcher = Pattern.compile("```" + kind + "\\n(.*?)```", Pattern.DOTALL)
            .matcher(Files.readString(PAGE));
        while (matcher.find()) {
            found.add(matcher.group(1));
        }
        Check.is("the page has a block of the kind " + kind, !found.isEmpty());
        return found;
    }

    private static String part(String from, String to) throws IOException {
        String page = Files.readString(PAGE);
        int start = page.indexOf(from);
        int end = page.indexOf(to, start + 1);
        Check.is("the page has a part from " + from + " to " + to, start >= 0 && end > start);
        return start >= 0 && end > start ? page.substring(start, end) : "";
    }
}
