import java.io.IOException;
import java.lang.reflect.Method;
import java.lang.reflect.Modifier;
import java.net.URISyntaxException;
import java.nio.file.Files;
import java.nio.file.Path;
import java.util.ArrayList;
import java.util.List;
import java.util.regex.Matcher;
import java.util.regex.Pattern;
import javax.tools.JavaCompiler;
import javax.tools.ToolProvider;

/**
 * Runs the calls that README.md shows and compares their answers with the ones that it names. A
 * block of Java that begins with "static" is taken as it is; in each other one a line makes the
 * object or is a call with its answer, so that no call can stand there without one.
 */
public final class ReadmeTest {
    private static final Path README = Path.of("README.md");
    private static final Path TESTS = Path.of("src/test/java");
    private static final String MAKING = "CallMigrator m = new CallMigrator();";
    private static final Pattern CALL = Pattern.compile("(\\S.*); *// (-?\\d+|\"[^\"]*\")(: .+)?");
    private static final Pattern CONSTANT = Pattern.compile(": ([A-Z_]+)");
    private static final Pattern TEST_ROW = Pattern.compile("\\| `(\\w+(?:\\.\\.\\.)?\\w*Test)` \\| .+ \\|");

    private ReadmeTest() {
    }

    public static void main(String[] args) throws IOException, URISyntaxException, ReflectiveOperationException {
        List<String> lines = Files.readAllLines(README);
        List<String> shown = new ArrayList<>();
        String code = codeOf(lines, shown);
        showsEachMethod(shown);
        namesEachTest(lines);
        runCode(code);
        Check.finish();
    }

    /** The blocks of Java as one class with a method run(); the lines in them are added to shown. */
    private static String codeOf(List<String> lines, List<String> shown) {
        StringBuilder members = new StringBuilder();
        StringBuilder calls = new StringBuilder();
        for (int i = 0; i < lines.size(); i++) {
            if (lines.get(i).equals("```java")) {
                int end = endOfBlock(lines, i + 1);
                shown.addAll(lines.subList(i + 1, end));
                if (lines.get(i + 1).startsWith("static ")) {
                    members.append(String.join("\n", lines.subList(i + 1, end))).append('\n');
                } else {
                    calls.append(checksOf(lines, i + 1, end));
                }
                i = end;
            }
        }
        return "final class ReadmeCode {\n" + members + "static void run() {\n" + calls + "}\n}\n";
    }

    private static int endOfBlock(List<String> lines, int start) {
        int end = start;
        while (end < lines.size() && !lines.get(end).equals("```")) {
            end++;
        }
        return end;
    }

    private static String checksOf(List<String> lines, int start, int end) {
        StringBuilder checks = new StringBuilder("{\n");
        for (int i = start; i < end; i++) {
            String line = lines.get(i);
            Matcher call = CALL.matcher(line);
            if (call.matches()) {
                checks.append(checkOf(i + 1, call));
            } else {
                Check.dueText("a line without an answer in README.md", MAKING, line);
                checks.append(line).append('\n');
            }
        }
        return checks.append("}\n").toString();
    }

    private static String checkOf(int lineNumber, Matcher call) {
        String answer = call.group(2);
        String what = "line " + lineNumber + " of README.md, " + call.group(1);
        boolean isText = answer.startsWith("\"");
        String check = (isText ? "Check.dueText(" : "Check.due(") + quoted(what) + ", "
            + answer + (isText ? "" : "L") + ", " + call.group(1) + ");\n";
        Matcher constant = CONSTANT.matcher(call.group(3) == null ? "" : call.group(3));
        if (constant.matches()) {
            String name = constant.group(1);
            check += "Check.due(" + quoted(name) + ", " + answer + ", CallMigrator." + name + ");\n";
        }
        return check;
    }

    private static String quoted(String words) {
        return '"' + words.replace("\\", "\\\\").replace("\"", "\\\"") + '"';
    }

    private static void showsEachMethod(List<String> shown) {
        String code = String.join("\n", shown);
        for (Method method : CallMigrator.class.getDeclaredMethods()) {
            if (Modifier.isPublic(method.getModifiers())) {
                boolean isShown = code.contains("." + method.getName() + "(");
                Check.due("whether README.md shows " + method.getName(), 1, isShown ? 1 : 0);
            }
        }
    }

    /** Each test has one row in README.md, and each row there has a test. */
    private static void namesEachTest(List<String> lines) throws IOException {
        List<String> tests = testNames();
        Check.due("whether there are tests", 1, tests.isEmpty() ? 0 : 1);
        int[] rowsOf = new int[tests.size()];
        for (String line : lines) {
            Matcher row = TEST_ROW.matcher(line);
            if (row.matches()) {
                int named = 0;
                for (int i = 0; i < rowsOf.length; i++) {
                    boolean isNamed = tests.get(i).matches(row.group(1).replace("...", "\\w+"));
                    rowsOf[i] += isNamed ? 1 : 0;
                    named += isNamed ? 1 : 0;
                }
                Check.due("whether there is a test " + row.group(1), 1, named > 0 ? 1 : 0);
            }
        }
        for (int i = 0; i < rowsOf.length; i++) {
            Check.due("the rows in README.md for " + tests.get(i), 1, rowsOf[i]);
        }
    }

    private static List<String> testNames() throws IOException {
        List<String> names = new ArrayList<>();
        try (var files = Files.list(TESTS)) {
            for (Path file : (Iterable<Path>) files::iterator) {
                String name = file.getFileName().toString();
                if (name.endsWith("Test.java")) {
                    names.add(name.substring(0, name.length() - ".java".length()));
                }
            }
        }
        return names;
    }

    // Beside this test's own class, so that the code shares Check with it.
    private static void runCode(String code) throws IOException, URISyntaxException, ReflectiveOperationException {
        Path folder = Path.of(ReadmeTest.class.getProtectionDomain().getCodeSource().getLocation().toURI());
        Path source = Files.writeString(folder.resolve("ReadmeCode.java"), code);
        JavaCompiler compiler = ToolProvider.getSystemJavaCompiler();
        String[] arguments = {"-cp", folder.toString(), "-d", folder.toString(), source.toString()};
        int failed = compiler == null ? 1 : compiler.run(null, null, null, arguments);
        Check.due("compiling the code of README.md", 0, failed);
        if (failed == 0) {
            Class.forName("ReadmeCode").getDeclaredMethod("run").invoke(null);
        }
    }
}
