import java.io.ByteArrayOutputStream;
import java.io.IOException;
import java.lang.reflect.Method;
import java.lang.reflect.Modifier;
import java.net.URL;
import java.net.URLClassLoader;
import java.nio.charset.StandardCharsets;
import java.nio.file.Files;
import java.nio.file.Path;
import java.util.ArrayList;
import java.util.List;
import java.util.Set;
import java.util.TreeSet;
import java.util.regex.Matcher;
import java.util.regex.Pattern;
import java.util.stream.Stream;
import javax.tools.JavaCompiler;
import javax.tools.ToolProvider;

/** What README.md says is so: its example compiles and answers what it says, its command runs all the tests. */
public final class ReadmeTest {
    private static final Path TESTS = Path.of("src/test/java");
    private static final Path SHARED_TESTS = Path.of("../shared/tests");
    /** A call of the example's outermost lines, and the number that its comment begins with. */
    private static final Pattern ANSWERED = Pattern.compile("(?m)^(ground\\.\\w+\\(.*?\\));\\s*// (-?\\d+)\\b.*$");
    private static final Check CHECK = new Check();

    public static void main(String[] args) throws Exception {
        String readme = Files.readString(Path.of("README.md"));
        String example = block(readme, "java");
        eachCallHasItsAnswer(example);
        eachCallIsShown(example);
        theExampleCompiles(example);
        theExampleAnswers(example);
        theCommandRunsAllTests(block(readme, "sh").strip());
        eachFileIsNamed(readme);
        theConstants(readme);
        CHECK.end();
    }

    /** The one block of README.md in that language. */
    private static String block(String readme, String language) {
        CHECK.part("README.md");
        Matcher blocks = Pattern.compile("(?ms)^```" + language + "\n(.*?)^```$").matcher(readme);
        boolean found = blocks.find();
        String block = found ? blocks.group(1) : "";
        CHECK.isTrue("there is one block of " + language, found && !blocks.find());
        return block;
    }

    // ---- the example

    private static void eachCallHasItsAnswer(String example) {
        CHECK.part("the example's answers");
        for (String line : example.split("\n")) {
            CHECK.isTrue("it is said what this answers: " + line, !line.startsWith("ground.") || ANSWERED.matcher(line).matches());
        }
    }

    private static void eachCallIsShown(String example) {
        CHECK.part("the example's calls");
        for (Method call : GroundEdges.class.getDeclaredMethods()) {
            if (Modifier.isPublic(call.getModifiers())) {
                CHECK.isTrue(call.getName() + "() is shown", example.contains("ground." + call.getName() + "("));
            }
        }
    }

    /** As it stands, by someone who has nothing but the class. */
    private static void theExampleCompiles(String example) throws Exception {
        CHECK.part("the example");
        CHECK.same("what the compiler says", compiled("Example", "class Example {\n static void shown() {\n" + example + " }\n}\n", null), "");
    }

    private static void theExampleAnswers(String example) throws Exception {
        CHECK.part("the example");
        String answering = ANSWERED.matcher(example).replaceAll("answers.add($1);");
        List<Integer> answers = new ArrayList<>();
        String source = "public class Answering {\n public static void into(java.util.List<Integer> answers) {\n" + answering + " }\n}\n";
        CHECK.same("what the compiler says", compiled("Answering", source, answers), "");
        Matcher said = ANSWERED.matcher(example);
        int calls = 0;
        while (said.find()) {
            if (calls < answers.size()) {
                CHECK.due(said.group(1), answers.get(calls), Integer.parseInt(said.group(2)));
            }
            calls++;
        }
        CHECK.due("how many calls answered", answers.size(), calls);
    }

    /** What the compiler says of a class; if it is to answer, its method is called, too. */
    private static String compiled(String name, String source, List<Integer> answers) throws Exception {
        JavaCompiler compiler = ToolProvider.getSystemJavaCompiler();
        if (compiler == null) {
            return "this java has no compiler";
        }
        Path folder = Files.createTempDirectory("readme");
        try {
            Path file = Files.writeString(folder.resolve(name + ".java"), source);
            ByteArrayOutputStream said = new ByteArrayOutputStream();
            int code = compiler.run(null, said, said, "--release", "17", "-cp", System.getProperty("java.class.path"), "-d", folder.toString(), file.toString());
            if (code == 0 && answers != null) {
                call(folder, name, answers);
            }
            return code == 0 ? "" : said.toString(StandardCharsets.UTF_8) + "(code " + code + ")";
        } finally {
            remove(folder);
        }
    }

    private static void call(Path folder, String name, List<Integer> answers) throws Exception {
        try (URLClassLoader loader = new URLClassLoader(new URL[] {folder.toUri().toURL()}, ReadmeTest.class.getClassLoader())) {
            loader.loadClass(name).getMethod("into", List.class).invoke(null, answers);
        }
    }

    private static void remove(Path folder) throws IOException {
        for (Path file : files(folder)) {
            Files.delete(file);
        }
        Files.delete(folder);
    }

    // ---- the command and the tests

    private static List<Path> files(Path folder) throws IOException {
        try (Stream<Path> files = Files.list(folder)) {
            return files.toList();
        }
    }

    private static boolean isJava(Path file) {
        return file.toString().endsWith(".java");
    }

    /** What the command says that it runs is every file with a main, of the project's and of the shared ones. */
    private static void theCommandRunsAllTests(String command) throws Exception {
        CHECK.part("the command");
        CHECK.same("it", command, ".ci/run");
        CHECK.isTrue("it can be run", Files.isExecutable(Path.of(command)));
        Set<String> due = new TreeSet<>();
        for (Path file : files(TESTS)) {
            if (isJava(file) && Files.readString(file).contains("public static void main(String[] args)")) {
                due.add(file.toString());
            }
        }
        for (Path file : files(SHARED_TESTS)) {
            if (isJava(file)) {
                due.add(file.toString());
            }
        }
        Process listing = new ProcessBuilder(command, "list").redirectErrorStream(true).start();
        String listed = new String(listing.getInputStream().readAllBytes(), StandardCharsets.UTF_8);
        CHECK.due("it ends with", listing.waitFor(), 0);
        CHECK.same("what it runs", new TreeSet<>(List.of(listed.split("\n"))).toString(), due.toString());
    }

    /** Each file of the tests' folder stands on the page, and each file that stands there is in the tree. */
    private static void eachFileIsNamed(String readme) throws IOException {
        CHECK.part("the list of tests");
        for (Path file : files(TESTS)) {
            CHECK.isTrue(file + " is named", readme.contains("`" + file.getFileName() + "`"));
        }
        Matcher named = Pattern.compile("`([\\w./]+\\.(?:java|md))`").matcher(readme);
        while (named.find()) {
            Path file = Path.of(named.group(1));
            CHECK.isTrue(file + " is there", Files.exists(file) || Files.exists(TESTS.resolve(file)));
        }
    }

    private static void theConstants(String readme) {
        CHECK.part("the constants");
        CHECK.isTrue("BAD", readme.contains("`BAD` (" + GroundEdges.BAD + ")"));
        CHECK.isTrue("STATE", readme.contains("`STATE` (" + GroundEdges.STATE + ")"));
        CHECK.isTrue("FULL", readme.contains("`FULL` (" + GroundEdges.FULL + ")"));
        CHECK.isTrue("NONE", readme.contains("`NONE` (" + GroundEdges.NONE + ")"));
    }
}
