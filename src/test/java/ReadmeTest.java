import java.io.IOException;
import java.io.StringWriter;
import java.nio.charset.StandardCharsets;
import java.nio.file.Files;
import java.nio.file.Path;
import java.util.List;
import java.util.TreeSet;
import java.util.regex.Matcher;
import java.util.regex.Pattern;
import java.util.stream.Stream;
import javax.tools.JavaCompiler;
import javax.tools.StandardJavaFileManager;
import javax.tools.ToolProvider;

/** README.md held against what stands: its example, the calls, refusals, texts, parts and tests that it names. */
public final class ReadmeTest {
    private static final Check CHECK = new Check("ReadmeTest");
    private static final Path SOURCE = Path.of("src/main/java/HoldsOnceDenied.java");
    private static final Path DOCUMENT = Path.of("..", "shared", "DOC.md");
    private static final Path TESTS = Path.of("src/test/java");
    private static final int[] REFUSALS = {-1, -2, -3, -4, -11, -12, -13, -14, -15};

    private static String page;

    public static void main(String[] args) throws IOException, ReflectiveOperationException {
        page = read(Path.of("README.md"));
        theExample();
        theCalls();
        theRefusals();
        theTexts();
        theParts();
        theTests();
        CHECK.finish();
    }

    private static String read(Path file) throws IOException {
        return Files.readString(file, StandardCharsets.UTF_8);
    }

    private static String section(String title) {
        Matcher found = Pattern.compile("(?ms)^## " + title + "$(.*?)(?=^## |\\z)").matcher(page);
        boolean there = found.find();
        CHECK.holds("there is a section '" + title + "'", there);
        return there ? found.group(1) : "";
    }

    private static void isNamed(String where, String text, String name) {
        CHECK.holds(name + " is named under '" + where + "'", text.contains("`" + name + "`"));
    }

    /** The example is compiled as it stands, but that each call whose answer it tells is looked at. */
    private static void theExample() throws IOException, ReflectiveOperationException {
        Matcher block = Pattern.compile("(?s)```java\\n(.*?)```").matcher(section("Using it"));
        String example = block.find() ? block.group(1) : "";
        Matcher told = Pattern.compile("(?m)^(x\\..*);\\s+// (-?\\d+): .*$").matcher(example);
        String looked = told.replaceAll("check.due(\"$1\", $1, $2);");
        CHECK.holds("the example tells answers", !looked.equals(example));
        Matcher untold = Pattern.compile("(?m)^x\\..*$").matcher(looked);
        CHECK.holds("each call of the example tells its answer", !untold.find());
        runExample("final class ReadmeExample {\n    static void look(Check check) {\n" + looked + "    }\n}\n");
    }

    private static void runExample(String code) throws IOException, ReflectiveOperationException {
        JavaCompiler compiler = ToolProvider.getSystemJavaCompiler();
        CHECK.holds("java is that of a JDK", compiler != null);
        if (compiler == null) {
            return;
        }
        // Beside the classes of the tests, so that it finds them and is found.
        Path built = Path.of(System.getProperty("java.class.path"));
        Path file = built.resolve("ReadmeExample.java");
        Files.writeString(file, code, StandardCharsets.UTF_8);
        StringWriter said = new StringWriter();
        boolean compiled;
        try (StandardJavaFileManager files = compiler.getStandardFileManager(null, null, null)) {
            List<String> options = List.of("-d", built.toString(), "-cp", built.toString());
            compiled = compiler.getTask(said, files, null, options, null, files.getJavaFileObjects(file)).call();
        }
        CHECK.holds("the example compiles: " + said, compiled);
        if (compiled) {
            Class.forName("ReadmeExample").getDeclaredMethod("look", Check.class).invoke(null, CHECK);
        }
    }

    /** Every call of the document's face stands on the page, with the names of its arguments. */
    private static void theCalls() throws IOException {
        String calls = section("Its calls");
        Matcher head = Pattern.compile("public (?:int|long) (\\w+)\\(([^)]*)\\)").matcher(read(DOCUMENT));
        int many = 0;
        while (head.find()) {
            isNamed("Its calls", calls, head.group(1) + "(" + head.group(2).replaceAll("(int|long) ", "") + ")");
            many++;
        }
        CHECK.due("how many calls the document has", many, 33);
    }

    private static void theRefusals() {
        String using = section("Using it").replaceAll("(?s)```.*?```", "");
        for (int refusal : REFUSALS) {
            CHECK.holds("refusal " + refusal, Pattern.compile("[ \n]" + refusal + " ").matcher(using).find());
        }
    }

    /** Each statement on the page can be read behind two sentences and two deniers; the faults are as it tells. */
    private static void theTexts() {
        String texts = section("Its texts");
        TreeSet<Character> letters = new TreeSet<>();
        Matcher statement = Pattern.compile("`([sntdkx]\\d*;)`").matcher(texts);
        while (statement.find()) {
            letters.add(statement.group(1).charAt(0));
            CHECK.due(statement.group(1), Check.read(Check.schoolOf("s;s;d00;d00;"), statement.group(1)), 1);
        }
        CHECK.due("letters of statements", letters.size(), 6);
        Matcher fault = Pattern.compile("`([^`]+)`\\s(?:answers\\s)?(-\\d+)").matcher(texts);
        int faults = 0;
        while (fault.find()) {
            CHECK.due(fault.group(1), Check.read(new HoldsOnceDenied(), fault.group(1)), Integer.parseInt(fault.group(2)));
            faults++;
        }
        CHECK.due("faults of texts", faults, 2);
    }

    private static void theParts() throws IOException {
        String parts = section("Its parts");
        TreeSet<String> classes = namesIn(read(SOURCE), "\\bclass (\\w+)");
        for (String name : classes) {
            isNamed("Its parts", parts, name);
        }
        for (String name : namesIn(parts, "`(\\w+)`")) {
            CHECK.holds(name + " is a part of the class", classes.contains(name));
        }
    }

    private static void theTests() throws IOException {
        String tests = section("Its tests");
        TreeSet<String> files = new TreeSet<>();
        try (Stream<Path> all = Files.list(TESTS)) {
            all.forEach(file -> files.add(file.getFileName().toString().replace(".java", "")));
        }
        for (String name : files) {
            isNamed("Its tests", tests, name);
        }
        for (String name : namesIn(tests, "`([A-Z]\\w+)`")) {
            CHECK.holds(name + " is a file of the tests", files.contains(name));
        }
        CHECK.holds(".ci/run is named", tests.contains("`bash .ci/run`"));
        CHECK.holds(".ci/run can be run", Files.isExecutable(Path.of(".ci/run")));
    }

    private static TreeSet<String> namesIn(String text, String pattern) {
        TreeSet<String> names = new TreeSet<>();
        Matcher found = Pattern.compile(pattern).matcher(text);
        while (found.find()) {
            names.add(found.group(1));
        }
        return names;
    }
}
