import java.io.File;
import java.io.IOException;
import java.lang.reflect.Method;
import java.lang.reflect.Modifier;
import java.nio.charset.StandardCharsets;
import java.nio.file.Files;
import java.nio.file.Path;
import java.nio.file.StandardCopyOption;
import java.util.ArrayList;
import java.util.List;
import java.util.Set;
import java.util.TreeSet;
import java.util.concurrent.TimeUnit;
import java.util.regex.Matcher;
import java.util.regex.Pattern;

/**
 * README.md tells what is so: its example answers what stands beside it, its commands work on a clean checkout, and its
 * tables name all there is. It is run at the project's root; each command of the page is run in a copy elsewhere.
 */
public final class ReadmeTest {
    private static final Path MAIN = Path.of("src/main/java/CircuitText.java");
    private static final Path TESTS = Path.of("src/test/java");
    private static final Path RUN = Path.of(".ci/run");

    /** Tests that know nothing of the class: what counts is how .ci/run takes their end. */
    private static final String PASSES = "public class %s { public static void main(String[] args) { new CircuitText(); } }";
    private static final String FAILS = "public class %s { public static void main(String[] args) { System.exit(1); } }";
    private static final String THROWS = "public class %s { public static void main(String[] args) { throw new Error(); } }";
    private static final String NO_JAVA = "public class %s { this is not Java }";

    private static String page = "";
    private static String printed = "";

    public static void main(String[] args) throws IOException, InterruptedException {
        page = Files.readString(Path.of("README.md"), StandardCharsets.UTF_8);
        exampleAnswersWhatIsSaid();
        oneTestIsRunAsSaid();
        allTestsAreRunAsSaid();
        runRefusesWhatIsWrong();
        tablesNameAllThereIs();
        Bench.done("ReadmeTest");
    }

    /** "the example of use that it shows compiles and answers what README.md says" */
    private static void exampleAnswersWhatIsSaid() throws IOException, InterruptedException {
        String example = block("java", 0);
        Path root = checkout();
        write(root.resolve("Example.java"), example);
        Bench.due("the example's commands", run(root, block("sh", 0)), 0);
        List<String> said = said(example);
        String[] lines = printed.split("\n");
        Bench.due("lines that the example prints", lines.length, said.size());
        for (int i = 0; i < said.size() && i < lines.length; i++) {
            same("line " + i + " of the example", lines[i], said.get(i));
        }
        for (Method method : CircuitText.class.getDeclaredMethods()) {
            if (Modifier.isPublic(method.getModifiers())) {
                yes("the example calls " + method.getName(), example.contains("x." + method.getName() + "("));
            }
        }
        remove(root);
    }

    /** What stands behind // up to the colon, of each line that prints. */
    private static List<String> said(String example) {
        List<String> said = new ArrayList<>();
        for (String line : example.split("\n")) {
            if (line.contains("System.out.println(")) {
                Matcher comment = Pattern.compile("// ([^:]*):").matcher(line);
                said.add(comment.find() ? comment.group(1) : "nothing is said");
            }
        }
        return said;
    }

    private static void oneTestIsRunAsSaid() throws IOException, InterruptedException {
        Path root = checkout();
        Bench.due("the commands for one test", run(root, block("sh", 2)), 0);
        yes("one test tells how it ended", printed.contains("TapeTest: "));
        remove(root);
    }

    /** "the way to run the tests that it tells is the one that works on a clean checkout" */
    private static void allTestsAreRunAsSaid() throws IOException, InterruptedException {
        same("the command for all tests", block("sh", 1), RUN + "\n");
        yes("it can be executed", Files.isExecutable(RUN));
        Path root = checkoutOf(PASSES, PASSES);
        Bench.due("a right checkout", run(root, block("sh", 1)), 0);
        yes("it runs the project's test", printed.contains("passed: src/test/java/OwnTest.java"));
        yes("it runs the shared test", printed.contains("passed: ../shared/tests/Runs.java"));
        same("it leaves nothing behind", String.join(" ", names(root)), ".ci src");
        remove(root);
    }

    /** "it fails if one of them fails" */
    private static void runRefusesWhatIsWrong() throws IOException, InterruptedException {
        String[] wrong = {FAILS, THROWS, NO_JAVA};
        for (String text : wrong) {
            refused("a test of the project: " + text, checkoutOf(text, PASSES));
            refused("a shared test: " + text, checkoutOf(PASSES, text));
        }
        Path broken = checkoutOf(PASSES, PASSES);
        write(broken.resolve(MAIN), String.format(NO_JAVA, "CircuitText"));
        refused("a class that is no Java", broken);
        Path alone = checkoutOf(PASSES, PASSES);
        removeAll(alone.resolveSibling("shared").toFile());
        refused("a checkout without shared tests", alone);
    }

    private static void refused(String what, Path root) throws IOException, InterruptedException {
        yes(what + " is refused", run(root, block("sh", 1)) != 0);
        remove(root);
    }

    private static void tablesNameAllThereIs() {
        Set<String> tests = new TreeSet<>();
        for (String file : names(TESTS)) {
            if (file.endsWith("Test.java")) {
                tests.add(file.substring(0, file.length() - ".java".length()));
            }
        }
        same("tests that the page names", rows("(\\w+Test)").toString(), tests.toString());
        Set<String> calls = new TreeSet<>();
        for (Method method : CircuitText.class.getDeclaredMethods()) {
            if (Modifier.isPublic(method.getModifiers())) {
                calls.add(method.getName() + " " + method.getParameterCount());
            }
        }
        Set<String> told = new TreeSet<>();
        for (String call : rows("(\\w+\\([^)]*\\))")) {
            int bracket = call.indexOf('(');
            int count = bracket + 2 == call.length() ? 0 : call.split(",").length;
            told.add(call.substring(0, bracket) + " " + count);
        }
        same("calls that the page names", told.toString(), calls.toString());
    }

    /** What the rows of the page's tables begin with, where it is of this form. */
    private static Set<String> rows(String form) {
        Set<String> found = new TreeSet<>();
        Matcher row = Pattern.compile("^\\| `" + form + "` \\|", Pattern.MULTILINE).matcher(page);
        while (row.find()) {
            found.add(row.group(1));
        }
        return found;
    }

    /** The page's block of a language, by its number among those of that language. */
    private static String block(String language, int number) {
        Matcher block = Pattern.compile("^```" + language + "\n(.*?)^```$", Pattern.MULTILINE | Pattern.DOTALL).matcher(page);
        int left = number;
        while (block.find()) {
            if (left == 0) {
                return block.group(1);
            }
            left--;
        }
        yes("the page has block " + number + " of " + language, false);
        return "false\n";
    }

    /** A copy of the project as it is checked out, in a directory of its own. */
    private static Path checkout() throws IOException {
        Path root = Files.createTempDirectory("readme").resolve("main");
        copy(MAIN, root);
        copy(RUN, root);
        for (String file : names(TESTS)) {
            copy(TESTS.resolve(file), root);
        }
        return root;
    }

    /** A checkout with one test of its own and one shared test, of these texts. */
    private static Path checkoutOf(String own, String shared) throws IOException {
        Path root = Files.createTempDirectory("readme").resolve("main");
        copy(MAIN, root);
        copy(RUN, root);
        copy(TESTS.resolve("Bench.java"), root);
        write(root.resolve(TESTS).resolve("OwnTest.java"), String.format(own, "OwnTest"));
        write(root.resolveSibling("shared").resolve("tests/Runs.java"), String.format(shared, "Runs"));
        return root;
    }

    private static void copy(Path file, Path root) throws IOException {
        Path to = root.resolve(file);
        Files.createDirectories(to.getParent());
        Files.copy(file, to, StandardCopyOption.COPY_ATTRIBUTES);
    }

    private static void write(Path file, String text) throws IOException {
        Files.createDirectories(file.getParent());
        Files.writeString(file, text, StandardCharsets.UTF_8);
    }

    /** The commands as they stand, stopped at the first that fails; what they print is kept. */
    private static int run(Path root, String commands) throws IOException, InterruptedException {
        Path log = root.resolveSibling("log");
        Process process = new ProcessBuilder("sh", "-ec", commands)
            .directory(root.toFile()).redirectOutput(log.toFile()).redirectError(ProcessBuilder.Redirect.DISCARD).start();
        process.getOutputStream().close();
        if (!process.waitFor(5, TimeUnit.MINUTES)) {
            process.destroyForcibly();
            return -1;
        }
        printed = Files.readString(log, StandardCharsets.UTF_8);
        return process.exitValue();
    }

    private static Set<String> names(Path directory) {
        String[] names = directory.toFile().list();
        return names == null ? new TreeSet<>() : new TreeSet<>(List.of(names));
    }

    /** The whole directory that a checkout was given. */
    private static void remove(Path root) {
        removeAll(root.getParent().toFile());
    }

    private static void removeAll(File file) {
        File[] inside = file.listFiles();
        if (inside != null) {
            for (File each : inside) {
                removeAll(each);
            }
        }
        file.delete();
    }

    private static void yes(String what, boolean so) {
        Bench.due(what, so ? 1 : 0, 1);
    }

    private static void same(String what, String got, String want) {
        Bench.due(what + ": '" + got + "' for '" + want + "'", got.equals(want) ? 1 : 0, 1);
    }
}
