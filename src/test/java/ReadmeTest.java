import java.io.File;
import java.io.IOException;
import java.lang.reflect.Method;
import java.lang.reflect.Modifier;
import java.nio.charset.StandardCharsets;
import java.nio.file.Files;
import java.nio.file.Path;
import java.util.Set;
import java.util.TreeSet;
import java.util.regex.MatchResult;
import java.util.regex.Matcher;
import java.util.regex.Pattern;
import java.util.stream.Collectors;
import java.util.stream.Stream;

/** That what README.md says holds. The arguments are the class, the document and the folder of the tests. */
public final class ReadmeTest {
    public static void main(String[] args) throws IOException, InterruptedException {
        String readme = Files.readString(Path.of("README.md"));
        program(readme, args[0]);
        calls(readme);
        constants(readme);
        tests(readme, Path.of(args[2]));
        paths(readme);
        Check.end();
    }

    /** Runs the program by the very commands that stand below it. */
    private static void program(String readme, String source) throws IOException, InterruptedException {
        String program = found("(?s)```java\n(.*?)```", readme);
        Path folder = Files.createTempDirectory("readme");
        Path copy = folder.resolve(source);
        Files.createDirectories(copy.getParent());
        Files.copy(Path.of(source), copy);
        Files.writeString(folder.resolve("Morning.java"), program);
        Check.sameWords("the compiler is silent", run(folder, found("(?m)^    (javac .*)$", readme)), "");
        String prints = found("(?s)\nprints\n\n(.*?)\n\n", readme).replaceAll("(?m)^    ", "");
        Check.sameWords("the program prints", run(folder, found("(?m)^    (java -cp .*)$", readme)).strip(), prints);
        try (Stream<Path> all = Files.walk(folder)) {
            all.sorted((one, other) -> other.compareTo(one)).map(Path::toFile).forEach(File::delete);
        }
    }

    private static String run(Path folder, String command) throws IOException, InterruptedException {
        Process process = new ProcessBuilder(command.split(" ")).directory(folder.toFile()).redirectErrorStream(true).start();
        String printed = new String(process.getInputStream().readAllBytes(), StandardCharsets.UTF_8);
        Check.due(command, process.waitFor(), 0);
        return printed;
    }

    private static void calls(String readme) {
        Set<String> told = all("`(\\w+)`", found("(?s)\\| for \\| calls \\|\n(.*?)\n\n", readme));
        Set<String> there = new TreeSet<>();
        for (Method method : CanalSteps.class.getDeclaredMethods()) {
            if (Modifier.isPublic(method.getModifiers())) {
                there.add(method.getName());
            }
        }
        Check.sameWords("the calls", told.toString(), there.toString());
    }

    private static void constants(String readme) {
        Set<String> told = all("`(\\w+ ?` \\| -\\d)", found("(?s)\\| constant .*?\n(.*?)\n\n", readme));
        String due = "[BAD_VALUE` | " + CanalSteps.BAD_VALUE + ", FULL` | " + CanalSteps.FULL + ", NONE` | " + CanalSteps.NONE
            + ", NOT_POSSIBLE` | " + CanalSteps.NOT_POSSIBLE + ", UNKNOWN` | " + CanalSteps.UNKNOWN + "]";
        Check.sameWords("the constants", told.toString(), due);
    }

    private static void tests(String readme, Path folder) throws IOException {
        Set<String> there;
        try (Stream<Path> files = Files.list(folder)) {
            there = files.map(file -> file.getFileName().toString().replace(".java", ""))
                .collect(Collectors.toCollection(TreeSet::new));
        }
        Check.sameWords("the tests and what they share", all("\\b([A-Z]\\w+Test|Check|CanalModel)\\b", readme).toString(),
            there.toString());
    }

    private static void paths(String readme) {
        for (String path : all("`((?:src|\\.\\./shared)[\\w./]*)`", readme)) {
            Check.due(path + " is there", new File(path).exists() ? 1 : 0, 1);
        }
        Check.due(".ci/run is told", readme.contains("\n    .ci/run\n") ? 1 : 0, 1);
        Check.due(".ci/run can be run", new File(".ci/run").canExecute() ? 1 : 0, 1);
    }

    private static String found(String pattern, String text) {
        Matcher matcher = Pattern.compile(pattern).matcher(text);
        boolean isThere = matcher.find();
        Check.due("README.md has " + pattern.replace("\n", " "), isThere ? 1 : 0, 1);
        return isThere ? matcher.group(1) : "";
    }

    private static Set<String> all(String pattern, String text) {
        return Pattern.compile(pattern).matcher(text).results().map((MatchResult one) -> one.group(1))
            .collect(Collectors.toCollection(TreeSet::new));
    }
}
