import java.io.IOException;
import java.nio.charset.StandardCharsets;
import java.nio.file.Files;
import java.nio.file.Path;
import java.util.ArrayList;
import java.util.List;
import java.util.TreeSet;
import java.util.regex.Matcher;
import java.util.regex.Pattern;
import java.util.stream.Stream;

/**
 * README.md's example is the file that is compiled and run here, by README.md's own commands, so that
 * the page can't tell what the class does not answer. Runs in the project's directory.
 */
public final class ReadmeTest {
    private static final Checks CHECKS = new Checks();
    private static final Path PROJECT = Path.of("").toAbsolutePath();
    private static final Path WORK = PROJECT.resolve("build").resolve("readme");
    private static final Pattern EXAMPLE = Pattern.compile("```java\n(.*?)```", Pattern.DOTALL);
    private static final Pattern PRINTING = Pattern.compile("System\\.out\\.println\\((.*)\\);(.*)");
    private static final Pattern ANSWER = Pattern.compile("\\s*// ([^:]+)(: .+)?");
    private static final Pattern COMMAND = Pattern.compile("(?m)^    (javac? .*)$");
    private static final Pattern TEST_NAME = Pattern.compile("`(\\w+Test)`");

    public static void main(String[] args) throws IOException, InterruptedException {
        String page = Files.readString(PROJECT.resolve("README.md"), StandardCharsets.UTF_8);
        example(page);
        places(page);
        testNames(page);
        CHECKS.end("ReadmeTest");
    }

    private static void example(String page) throws IOException, InterruptedException {
        Matcher found = EXAMPLE.matcher(page);
        if (!found.find()) {
            CHECKS.fault("README.md has no example");
            return;
        }
        String example = found.group(1);
        CHECKS.same("there is one example", 0, found.find() ? 1 : 0);
        Files.createDirectories(WORK.resolve("out"));
        Files.writeString(WORK.resolve("Yours.java"), example, StandardCharsets.UTF_8);
        compare(told(example), runBy(commands(page)));
    }

    /** Each row: what is printed, and the answer that the page tells. */
    private static List<String[]> told(String example) {
        List<String[]> rows = new ArrayList<>();
        for (String line : example.split("\n")) {
            Matcher printing = PRINTING.matcher(line);
            if (printing.find()) {
                Matcher answer = ANSWER.matcher(printing.group(2));
                boolean isTold = answer.matches();
                CHECKS.same("an answer is told behind " + printing.group(1), 1, isTold ? 1 : 0);
                rows.add(new String[] {printing.group(1), isTold ? answer.group(1).strip() : "nothing"});
            }
        }
        return rows;
    }

    private static List<String> commands(String page) {
        List<String> commands = new ArrayList<>();
        Matcher found = COMMAND.matcher(page);
        while (found.find()) {
            commands.add(found.group(1));
        }
        CHECKS.same("the commands", 2, commands.size());
        return commands;
    }

    private static List<String> runBy(List<String> commands) throws IOException, InterruptedException {
        List<String> printed = new ArrayList<>();
        for (String command : commands) {
            printed.addAll(run(command));
        }
        return printed;
    }

    /** The page's files stand in the project's directory; here Yours.java and out are kept in build. */
    private static List<String> run(String command) throws IOException, InterruptedException {
        List<String> words = new ArrayList<>();
        for (String word : command.split(" ")) {
            boolean isKeptInBuild = word.equals("out") || word.equals("Yours.java");
            words.add(isKeptInBuild ? WORK.resolve(word).toString() : word);
        }
        Process process = new ProcessBuilder(words).directory(PROJECT.toFile()).redirectErrorStream(true).start();
        String text = new String(process.getInputStream().readAllBytes(), StandardCharsets.UTF_8);
        CHECKS.same(command + ", the exit code", 0, process.waitFor());
        return text.lines().toList();
    }

    private static void compare(List<String[]> told, List<String> printed) {
        CHECKS.same("the example prints something", 1, told.isEmpty() ? 0 : 1);
        CHECKS.same("so many answers are printed", told.size(), printed.size());
        for (int i = 0; i < told.size(); i++) {
            String[] row = told.get(i);
            String got = i < printed.size() ? printed.get(i) : "nothing";
            CHECKS.same("answer " + i + " of README.md, " + row[0], row[1], got);
        }
    }

    private static void places(String page) {
        for (String place : List.of("../shared/DOC.md", "../shared/LANGUAGE.md", "../shared/tests",
                "src/main/java/ShelfMarks.java", "src/test/java", ".ci/run")) {
            CHECKS.same("README.md names " + place, 1, page.contains(place) ? 1 : 0);
            CHECKS.same(place + " is there", 1, Files.exists(PROJECT.resolve(place)) ? 1 : 0);
        }
        CHECKS.same("README.md tells how many calls", 1, page.contains("at most " + Real.CALLS + " calls") ? 1 : 0);
    }

    private static void testNames(String page) throws IOException {
        TreeSet<String> named = new TreeSet<>();
        Matcher found = TEST_NAME.matcher(page);
        while (found.find()) {
            named.add(found.group(1));
        }
        TreeSet<String> present = new TreeSet<>();
        try (Stream<Path> files = Files.list(PROJECT.resolve("src/test/java"))) {
            files.map(file -> file.getFileName().toString())
                    .filter(name -> name.endsWith("Test.java"))
                    .forEach(name -> present.add(name.substring(0, name.length() - ".java".length())));
        }
        CHECKS.same("the tests that README.md names", present.toString(), named.toString());
    }
}
