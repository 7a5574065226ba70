import java.io.IOException;
import java.lang.reflect.Method;
import java.lang.reflect.Modifier;
import java.nio.charset.StandardCharsets;
import java.nio.file.Files;
import java.nio.file.Path;
import java.util.ArrayList;
import java.util.Comparator;
import java.util.List;
import java.util.Set;
import java.util.TreeSet;
import java.util.regex.Matcher;
import java.util.regex.Pattern;
import java.util.stream.Stream;

/** README.md: what it shows works as it stands there, and it names every call and every test. */
public final class ReadmeTest extends Due {
    private static final Path RUN = Path.of(".ci", "run");
    private static final Path TESTS = Path.of("src", "test", "java");

    private static List<String> blocks(String readme, String language) {
        Matcher block = Pattern.compile("(?ms)^```" + language + "\n(.*?)^```$").matcher(readme);
        List<String> all = new ArrayList<>();
        while (block.find()) {
            all.add(block.group(1));
        }
        return all;
    }

    private static String onlyBlock(String readme, String language) {
        List<String> all = blocks(readme, language);
        due("blocks of " + language, all.size(), 1);
        return all.isEmpty() ? "" : all.get(0);
    }

    private static void everyCallIsTold(String readme, String program) {
        for (Method method : ReleaseRows.class.getDeclaredMethods()) {
            if (Modifier.isPublic(method.getModifiers())) {
                String name = method.getName();
                due("the table has " + name, readme.contains("\n| `" + name + "("), true);
                due("the program calls " + name, program.contains("rows." + name + "("), true);
            }
        }
    }

    private static void everyTestIsNamed(String readme) throws IOException {
        Set<String> told = new TreeSet<>();
        Matcher item = Pattern.compile("(?m)^- `(\\w+Test)`:").matcher(readme);
        while (item.find()) {
            told.add(item.group(1));
        }
        Set<String> there = new TreeSet<>();
        try (Stream<Path> files = Files.list(TESTS)) {
            files.map(file -> file.getFileName().toString())
                .filter(name -> name.endsWith("Test.java"))
                .forEach(name -> there.add(name.substring(0, name.length() - ".java".length())));
        }
        due("the tests that it names", told, there);
    }

    private static void copyTree(Path from, Path to) throws IOException {
        try (Stream<Path> files = Files.walk(from)) {
            for (Path file : (Iterable<Path>) files::iterator) {
                Path copy = to.resolve(from.relativize(file).toString());
                if (Files.isDirectory(file)) {
                    Files.createDirectories(copy);
                } else {
                    Files.copy(file, copy);
                }
            }
        }
    }

    private static void deleteTree(Path tree) throws IOException {
        try (Stream<Path> files = Files.walk(tree)) {
            for (Path file : (Iterable<Path>) files.sorted(Comparator.reverseOrder())::iterator) {
                Files.delete(file);
            }
        }
    }

    private static String printedBy(String commands, Path directory) throws IOException, InterruptedException {
        Process shell = new ProcessBuilder("sh", "-e", "-c", commands)
            .directory(directory.toFile()).redirectError(ProcessBuilder.Redirect.INHERIT).start();
        String printed = new String(shell.getInputStream().readAllBytes(), StandardCharsets.UTF_8);
        due("the exit code of " + commands, shell.waitFor(), 0);
        return printed;
    }

    /** In a copy of the project, so that nothing is left behind in it. */
    private static void commandsWork(String readme, Path project) throws IOException, InterruptedException {
        copyTree(Path.of("src"), project.resolve("src"));
        Files.writeString(project.resolve("Example.java"), onlyBlock(readme, "java"));
        boolean exampleRan = false;
        boolean allTestsNamed = false;
        for (String commands : blocks(readme, "sh")) {
            if (commands.trim().equals(RUN.toString())) {
                // It can't be run from here: it is what runs this test.
                due("it can be run: " + RUN, Files.isExecutable(RUN), true);
                allTestsNamed = true;
            } else if (commands.contains("Example.java")) {
                due("the program printed", printedBy(commands, project), onlyBlock(readme, "text"));
                exampleRan = true;
            } else {
                due("printed by " + commands, printedBy(commands, project), "");
            }
        }
        due("it says how to run the program", exampleRan, true);
        due("it says how to run all tests", allTestsNamed, true);
    }

    public static void main(String[] args) throws IOException, InterruptedException {
        String readme = Files.readString(Path.of("README.md"));
        everyCallIsTold(readme, onlyBlock(readme, "java"));
        everyTestIsNamed(readme);
        Path project = Files.createTempDirectory("readme");
        try {
            commandsWork(readme, project);
        } finally {
            deleteTree(project);
        }
        end();
    }
}
