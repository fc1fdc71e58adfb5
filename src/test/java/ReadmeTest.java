import java.io.File;
import java.io.IOException;
import java.io.ObjectStreamClass;
import java.lang.reflect.Field;
import java.lang.reflect.Method;
import java.lang.reflect.Modifier;
import java.net.URL;
import java.net.URLClassLoader;
import java.nio.file.Files;
import java.nio.file.Path;
import java.util.ArrayList;
import java.util.List;
import java.util.TreeSet;
import java.util.regex.Matcher;
import java.util.regex.Pattern;

/** README.md: its example prints what it says, and its tables tell of all that there is. */
public final class ReadmeTest {
    private static final Check CHECK = new Check();
    private static final Pattern JAVA_BLOCK = Pattern.compile("(?ms)^```java\n(.*?)^```$");
    private static final Pattern TEXT_BLOCK = Pattern.compile("(?ms)^```text\n(.*?)^```$");
    private static final Pattern CLASS_NAME = Pattern.compile("public (?:final )?class (\\w+)");
    private static final Pattern CALL_ROW = Pattern.compile("(?m)^\\| `(\\w+)\\(([^)]*)\\)` \\|");
    private static final Pattern ANSWER_ROW =
            Pattern.compile("(?m)^\\| `([A-Z]+)` \\| (-?\\d+) \\|");
    private static final Pattern DONE_TOLD = Pattern.compile("(?m)^`(DONE)` is (\\d+)\\.$");
    private static final Pattern SOURCE_TOLD = Pattern.compile("`([A-Z]\\w*)`");

    public static void main(String[] args) throws Exception {
        String readme = Files.readString(Path.of("README.md"));
        Path directory = Files.createTempDirectory("readme");
        try {
            example(readme, directory);
        } finally {
            deleteAll(directory);
        }
        calls(readme);
        answers(readme);
        tests(readme);
        CHECK.end();
    }

    private static void example(String readme, Path directory) throws Exception {
        String classPath = System.getProperty("java.class.path") + File.pathSeparator + directory;
        List<String> compile = new ArrayList<>(
                List.of("javac", "--release", "17", "-cp", classPath, "-d", directory.toString()));
        Matcher block = JAVA_BLOCK.matcher(readme);
        while (block.find()) {
            compile.add(write(block.group(1), directory));
        }
        output(compile);
        String printed = output(List.of("java", "-cp", classPath, "Example"));
        Matcher told = TEXT_BLOCK.matcher(readme);
        CHECK.due("what the example prints", printed, told.find() ? told.group(1) : "not told");
        String id = "\nid " + runtimeId(directory) + "\n";
        CHECK.due("the id among it is that of the Java runtime", printed.contains(id) ? 1 : 0, 1);
    }

    private static String write(String source, Path directory) throws IOException {
        Matcher name = CLASS_NAME.matcher(source);
        CHECK.due("the example's class has a name", name.find() ? 1 : 0, 1);
        Path file = directory.resolve(name.group(1) + ".java");
        Files.writeString(file, source);
        return file.toString();
    }

    private static String output(List<String> command) throws IOException, InterruptedException {
        Process process = new ProcessBuilder(command)
                .redirectError(ProcessBuilder.Redirect.INHERIT).start();
        String output = new String(process.getInputStream().readAllBytes());
        CHECK.due("exit code of " + command.get(0), process.waitFor(), 0);
        return output;
    }

    private static long runtimeId(Path directory) throws Exception {
        try (URLClassLoader loader = new URLClassLoader(new URL[] {directory.toUri().toURL()})) {
            return ObjectStreamClass.lookup(loader.loadClass("Point")).getSerialVersionUID();
        }
    }

    private static void deleteAll(Path directory) throws IOException {
        for (File each : directory.toFile().listFiles()) {
            Files.delete(each.toPath());
        }
        Files.delete(directory);
    }

    private static void calls(String readme) {
        TreeSet<String> told = new TreeSet<>();
        Matcher row = CALL_ROW.matcher(readme);
        while (row.find()) {
            told.add(row.group(1) + " of " + row.group(2).split(",").length);
        }
        TreeSet<String> due = new TreeSet<>();
        for (Method each : StreamIds.class.getDeclaredMethods()) {
            if (Modifier.isPublic(each.getModifiers())) {
                due.add(each.getName() + " of " + each.getParameterCount());
            }
        }
        CHECK.due("the calls told", told.toString(), due.toString());
    }

    private static void answers(String readme) throws IllegalAccessException {
        TreeSet<String> told = new TreeSet<>();
        for (Pattern each : List.of(ANSWER_ROW, DONE_TOLD)) {
            Matcher answer = each.matcher(readme);
            while (answer.find()) {
                told.add(answer.group(1) + " is " + answer.group(2));
            }
        }
        TreeSet<String> due = new TreeSet<>();
        for (Field each : StreamIds.class.getDeclaredFields()) {
            if (Modifier.isPublic(each.getModifiers())) {
                due.add(each.getName() + " is " + each.get(null));
            }
        }
        CHECK.due("the answers told", told.toString(), due.toString());
    }

    private static void tests(String readme) {
        TreeSet<String> told = new TreeSet<>();
        String chapter = readme.substring(readme.indexOf("## How to run its tests"));
        Matcher name = SOURCE_TOLD.matcher(chapter);
        while (name.find()) {
            told.add(name.group(1));
        }
        // The ending Test is told of there too.
        told.remove("Test");
        TreeSet<String> due = new TreeSet<>();
        for (String each : new File("src/test/java").list()) {
            due.add(each.replace(".java", ""));
        }
        CHECK.due("the tests told", told.toString(), due.toString());
    }
}
