import java.io.IOException;
import java.nio.file.Files;
import java.nio.file.Path;
import java.util.List;
import java.util.regex.Matcher;
import java.util.regex.Pattern;
import java.util.stream.Collectors;
import java.util.stream.Stream;

/** What README.md shows holds, and it names every test; .ci/run starts this in the project's folder. */
public final class ReadmeTest {

    private static final Path TESTS = Path.of("src", "test", "java");

    public static void main(String[] args) throws IOException {
        String readme = Files.readString(Path.of("README.md"));
        Checks.begin("the example, as README.md has it");
        Checks.due(List.of(example()), examplesOf(readme));
        Checks.begin("the example's answers");
        dueExample();
        Checks.begin("the tests that README.md names");
        try (Stream<Path> files = Files.list(TESTS)) {
            for (Path file : files.sorted().toList()) {
                String name = file.getFileName().toString().replace(".java", "");
                Checks.due(name + " true", name + " " + readme.contains("`" + name + "`"));
            }
        }
        Checks.end();
    }

    private static void dueExample() {
        RibbonQuarry quarry = new RibbonQuarry();
        quarry.append(0, 12, 0);
        quarry.append(0, 5, 1);
        Checks.due("12a-5b", lineOf(quarry, 0));
        quarry.cut(0, 1, 2);
        Checks.due("12a", lineOf(quarry, 0));
        Checks.due("5b", lineOf(quarry, 2));
        for (char sign : "join 0<2;dye 0@0-1 h".toCharArray()) {
            quarry.type(sign);
        }
        Checks.due(2, quarry.run());
        Checks.due("12h=5h", lineOf(quarry, 0));
        quarry.undo();
        Checks.due("5b", lineOf(quarry, 2));
        int size = quarry.describeReel(0);
        Checks.due(3, size);
        Checks.due("12a", lineOf(quarry, 0));
    }

    private static String lineOf(RibbonQuarry quarry, int reel) {
        quarry.describeReel(reel);
        return Look.line(quarry);
    }

    /** The lines of dueExample without its checks. */
    private static String example() throws IOException {
        String source = Files.readString(TESTS.resolve("ReadmeTest.java"));
        Matcher body = Pattern.compile("(?s) dueExample\\(\\) \\{\n(.*?)\n    }\n").matcher(source);
        Checks.due(true, body.find());
        return body.group(1).lines().map(String::strip).map(ReadmeTest::withoutCheck).filter(line -> !line.isEmpty())
                .collect(Collectors.joining("\n"));
    }

    private static String withoutCheck(String line) {
        Matcher check = Pattern.compile("Checks\\.due\\(.*?, (.*)\\);").matcher(line);
        if (!check.matches()) {
            return line;
        }
        return check.group(1).startsWith("quarry.") ? check.group(1) + ";" : "";
    }

    private static List<String> examplesOf(String readme) {
        return Pattern.compile("(?s)```java\n(.*?)```").matcher(readme).results()
                .map(example -> example.group(1).lines().map(line -> line.replaceFirst(" *//.*", "").strip())
                        .collect(Collectors.joining("\n")))
                .toList();
    }
}
