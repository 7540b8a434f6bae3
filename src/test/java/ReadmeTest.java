import java.io.IOException;
import java.lang.reflect.Method;
import java.lang.reflect.Modifier;
import java.nio.charset.StandardCharsets;
import java.nio.file.Files;
import java.nio.file.Path;
import java.nio.file.Paths;
import java.util.ArrayList;
import java.util.Comparator;
import java.util.List;
import java.util.Set;
import java.util.TreeSet;
import java.util.regex.Matcher;
import java.util.regex.Pattern;
import java.util.stream.Collectors;
import java.util.stream.Stream;

/**
 * What README.md says is true: its example prints what it shows, its commands run, its methods are those of the class,
 * and the command that it names for the tests is the one that runs them, and fails when one of them fails.
 */
public final class ReadmeTest {
    private static final Expect expect = new Expect("readme");
    private static final String TEST_COMMAND = "bash .ci/run";

    /** What is wrong with a small project, whose tests have to fail then. */
    private enum Fault {
        NOTHING, FIRST_TEST_FAILS, LAST_TEST_FAILS, TEST_THROWS, TEST_NOT_COMPILED, NO_TEST,
        FIRST_SHARED_TEST_FAILS, LAST_SHARED_TEST_FAILS, SHARED_TEST_NOT_COMPILED, NO_SHARED_TEST, CLASS_NOT_COMPILED
    }

    private final Path root;
    private final String readme;
    private final Path work;

    private ReadmeTest(Path root, Path work) throws IOException {
        this.root = root;
        this.work = work;
        readme = textOf(root.resolve("README.md"));
    }

    public static void main(String[] args) throws IOException {
        Path root = Paths.get(System.getProperty("project.root", ".")).toAbsolutePath().normalize();
        Path work = Files.createTempDirectory("readme");
        try {
            ReadmeTest test = new ReadmeTest(root, work);
            test.exampleAndCommands();
            test.methods();
            test.constants();
            test.testsAreNamed();
            test.commandForTheTests();
            test.commandRunsTheTests();
        } finally {
            delete(work);
        }
        expect.finish();
    }

    // ---- files and commands

    private record Answer(int code, String text) {
    }

    private static String textOf(Path file) throws IOException {
        return new String(Files.readAllBytes(file), StandardCharsets.UTF_8);
    }

    private static void write(Path file, String text) throws IOException {
        Files.createDirectories(file.getParent());
        Files.write(file, text.getBytes(StandardCharsets.UTF_8));
    }

    private static List<Path> under(Path folder) throws IOException {
        try (Stream<Path> paths = Files.walk(folder)) {
            return paths.collect(Collectors.toList());
        }
    }

    private static void copy(Path from, Path to) throws IOException {
        for (Path path : under(from)) {
            if (Files.isRegularFile(path)) {
                Path target = to.resolve(from.relativize(path).toString());
                Files.createDirectories(target.getParent());
                Files.copy(path, target);
            }
        }
    }

    private static void delete(Path folder) throws IOException {
        List<Path> paths = under(folder);
        paths.sort(Comparator.reverseOrder());
        for (Path path : paths) {
            Files.delete(path);
        }
    }

    private static Answer run(Path folder, String command) throws IOException {
        Process process = new ProcessBuilder("bash", "-c", command).directory(folder.toFile())
                .redirectError(ProcessBuilder.Redirect.DISCARD).start();
        process.getOutputStream().close();
        String text = new String(process.getInputStream().readAllBytes(), StandardCharsets.UTF_8);
        try {
            return new Answer(process.waitFor(), text.replace("\r\n", "\n"));
        } catch (InterruptedException stopped) {
            throw new IOException(stopped);
        }
    }

    // ---- what README.md shows

    private List<String> blocks(String kind) {
        List<String> found = new ArrayList<>();
        Matcher matcher = Pattern.compile("(?ms)^```" + kind + "\n(.*?)^```$").matcher(readme);
        while (matcher.find()) {
            found.add(matcher.group(1));
        }
        return found;
    }

    // The commands are run in their order, in a folder that holds what the project's own one does.
    private void exampleAndCommands() throws IOException {
        List<String> examples = blocks("java");
        List<String> outputs = blocks("text");
        expect.due("examples of use", examples.size(), 1);
        expect.due("outputs of them", outputs.size(), 1);
        expect.due("blocks of commands", blocks("sh").size(), 3);
        if (examples.isEmpty() || outputs.isEmpty()) {
            return;
        }
        Path folder = work.resolve("project");
        copy(root.resolve("src"), folder.resolve("src"));
        write(folder.resolve("Mine.java"), examples.get(0));
        String printed = "";
        for (String block : blocks("sh")) {
            if (!block.trim().equals(TEST_COMMAND)) {
                Answer answer = run(folder, "set -e\n" + block);
                expect.due("exit code of " + block.trim(), answer.code(), 0);
                printed = printed.isEmpty() ? answer.text() : printed;
            }
        }
        expect.holds("the example prints what README.md shows, not\n" + printed, printed.equals(outputs.get(0)));
    }

    private static int parametersIn(String list) {
        return list.isEmpty() ? 0 : list.split(",").length;
    }

    private void methods() {
        Set<String> due = new TreeSet<>();
        for (Method method : DixonEliminator.class.getDeclaredMethods()) {
            if (Modifier.isPublic(method.getModifiers())) {
                due.add(method.getName() + " with " + method.getParameterCount());
            }
        }
        Set<String> named = new TreeSet<>();
        Matcher matcher = Pattern.compile("`(\\w+)\\(([^`)]*)\\)`").matcher(readme);
        while (matcher.find()) {
            String method = matcher.group(1) + " with " + parametersIn(matcher.group(2));
            expect.holds(method + " is named once", named.add(method));
        }
        expect.holds("the methods " + named + " are those of the class, " + due, named.equals(due));
    }

    private void constants() {
        String[] names = {"BAD", "STATE", "FULL", "NONE"};
        int[] values = {DixonEliminator.BAD, DixonEliminator.STATE, DixonEliminator.FULL, DixonEliminator.NONE};
        for (int at = 0; at < names.length; at++) {
            expect.holds("README.md names " + names[at], readme.contains("`" + names[at] + "` = " + values[at] + " "));
        }
    }

    private void testsAreNamed() throws IOException {
        String notes = textOf(root.resolve("NOTES.md"));
        for (Path path : under(root.resolve("src/test/java"))) {
            String name = path.getFileName().toString().replace(".java", "");
            if (name.endsWith("Test")) {
                expect.holds("NOTES.md names " + name, notes.contains("`" + name + "`"));
            }
        }
    }

    // ---- the command for the tests

    private void commandForTheTests() throws IOException {
        int shown = 0;
        for (String block : blocks("sh")) {
            shown += block.trim().equals(TEST_COMMAND) ? 1 : 0;
        }
        expect.due("blocks with the command for the tests", shown, 1);
        Path script = root.resolve(".ci/run");
        expect.holds(".ci/run is executable", Files.isExecutable(script));
        // The script hands over its own path; without it this test is run alone.
        String running = System.getProperty("project.command");
        boolean same = running == null || Files.isSameFile(Paths.get(running), script);
        expect.holds("the script that runs the tests is the one that README.md names", same);
    }

    // The script runs the tests of small projects, all but one of which have a fault.
    private void commandRunsTheTests() {
        List<String> wrong = Stream.of(Fault.values()).parallel().map(this::wrongAnswer)
                .filter(text -> !text.isEmpty()).collect(Collectors.toList());
        expect.holds("the script answers for small projects as it should, but: " + wrong + "; that", wrong.isEmpty());
    }

    private String wrongAnswer(Fault fault) {
        try {
            Path folder = work.resolve(fault.name());
            makeSmallProject(folder, fault);
            Answer answer = run(folder.resolve("main"), TEST_COMMAND);
            if (fault != Fault.NOTHING) {
                return answer.code() != 0 ? "" : "it passes with " + fault;
            }
            boolean all = answer.code() == 0;
            for (String name : new String[] {"FirstTest", "LastTest", "SharedFirst", "SharedLast"}) {
                all = all && answer.text().contains(name + " has run");
            }
            return all ? "" : "it fails without a fault, or leaves a test out";
        } catch (IOException problem) {
            return fault + ": " + problem;
        }
    }

    private void makeSmallProject(Path folder, Fault fault) throws IOException {
        Path main = folder.resolve("main");
        copy(root.resolve(".ci"), main.resolve(".ci"));
        String end = fault == Fault.CLASS_NOT_COMPILED ? "" : "}";
        write(main.resolve("src/main/java/DixonEliminator.java"), "public final class DixonEliminator {" + end);
        if (fault != Fault.NO_TEST) {
            Path tests = main.resolve("src/test/java");
            writeTest(tests, "FirstTest", fault == Fault.FIRST_TEST_FAILS ? "System.exit(1);"
                    : fault == Fault.TEST_THROWS ? "throw new IllegalStateException();"
                    : fault == Fault.TEST_NOT_COMPILED ? "int;" : "");
            writeTest(tests, "LastTest", fault == Fault.LAST_TEST_FAILS ? "System.exit(1);" : "");
        }
        Path shared = folder.resolve("shared/tests");
        Files.createDirectories(shared);
        if (fault != Fault.NO_SHARED_TEST) {
            writeTest(shared, "SharedFirst", fault == Fault.FIRST_SHARED_TEST_FAILS ? "System.exit(1);"
                    : fault == Fault.SHARED_TEST_NOT_COMPILED ? "int;" : "");
            writeTest(shared, "SharedLast", fault == Fault.LAST_SHARED_TEST_FAILS ? "System.exit(1);" : "");
        }
    }

    private static void writeTest(Path folder, String name, String statement) throws IOException {
        write(folder.resolve(name + ".java"), "public final class " + name + " {\n"
                + "    public static void main(String[] args) {\n"
                + "        new DixonEliminator();\n"
                + "        System.out.println(\"" + name + " has run\");\n"
                + "        " + statement + "\n    }\n}\n");
    }
}
