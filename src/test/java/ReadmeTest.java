import java.io.IOException;
import java.lang.reflect.Method;
import java.lang.reflect.Modifier;
import java.nio.file.Files;
import java.nio.file.Path;
import java.util.ArrayList;
import java.util.List;
import java.util.regex.Matcher;
import java.util.regex.Pattern;
import java.util.stream.Collectors;
import java.util.stream.Stream;

/** What README.md shows holds when it is run; started, as .ci/run does, in the project's folder. */
public final class ReadmeTest {
    private static final Path README = Path.of("README.md");
    private static final Path TESTS = Path.of("src", "test", "java");

    public static void main(String[] args) throws IOException, InterruptedException {
        String readme = Files.readString(README);
        String example = exampleIn(readme);
        examplePrintsWhatItTells(example);
        everyCallIsShownAndExplained(readme, example);
        everyTestIsNamedAndThere(readme);
        Check.done();
    }

    private static String exampleIn(String readme) {
        Matcher block = Pattern.compile("```java\n(.*?)```", Pattern.DOTALL).matcher(readme);
        return block.find() ? block.group(1) : "";
    }

    /** Each line that prints tells behind // what, up to the colon. */
    private static void examplePrintsWhatItTells(String example) throws IOException, InterruptedException {
        List<String> told = new ArrayList<>();
        Matcher line = Pattern.compile("println\\((?:[^\n]*)\\); // ([^:\n]*):").matcher(example);
        while (line.find()) {
            told.add(line.group(1));
        }
        long printing = example.lines().filter(text -> text.contains("println")).count();
        Check.due(printing, "lines of the example that tell what they print", told::size);
        List<String> printed = printedBy(example);
        Check.due(told.size(), "lines that the example prints", printed::size);
        for (int i = 0; i < Math.min(told.size(), printed.size()); i++) {
            String answer = printed.get(i);
            Check.due(told.get(i), "line " + (i + 1) + " that the example prints", () -> answer);
        }
    }

    private static List<String> printedBy(String example) throws IOException, InterruptedException {
        Path folder = Files.createTempDirectory("readme");
        Path file = folder.resolve("Example.java");
        Files.writeString(file, example);
        String java = Path.of(System.getProperty("java.home"), "bin", "java").toString();
        Process run = new ProcessBuilder(java, "-cp", System.getProperty("java.class.path"), file.toString())
                .redirectErrorStream(true).start();
        List<String> printed = new String(run.getInputStream().readAllBytes()).lines().collect(Collectors.toList());
        int exit = run.waitFor();
        Check.due(0, "exit code of the example, which printed " + printed, () -> exit);
        Files.delete(file);
        Files.delete(folder);
        return printed;
    }

    private static void everyCallIsShownAndExplained(String readme, String example) {
        for (Method method : ZoneClock.class.getDeclaredMethods()) {
            if (Modifier.isPublic(method.getModifiers())) {
                String name = method.getName();
                Check.due(true, name + " in the example", () -> example.contains("clock." + name + "("));
                Check.due(true, name + " among the calls", () -> readme.contains("| `" + name + "("));
            }
        }
    }

    private static void everyTestIsNamedAndThere(String readme) throws IOException {
        List<String> files;
        try (Stream<Path> found = Files.list(TESTS)) {
            files = found.map(path -> path.getFileName().toString().replace(".java", "")).collect(Collectors.toList());
        }
        for (String name : files) {
            Check.due(true, name + " in README.md", () -> readme.contains("`" + name + "`"));
        }
        Matcher name = Pattern.compile("`(\\w+Test)`").matcher(readme);
        while (name.find()) {
            String test = name.group(1);
            Check.due(true, test + " of README.md under " + TESTS, () -> files.contains(test));
        }
    }
}
