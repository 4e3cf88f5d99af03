import java.io.File;
import java.io.IOException;
import java.net.URISyntaxException;
import java.nio.file.DirectoryStream;
import java.nio.file.Files;
import java.nio.file.Path;
import java.util.ArrayList;
import java.util.List;
import java.util.Set;
import java.util.TreeSet;
import java.util.regex.Matcher;
import java.util.regex.Pattern;
import javax.tools.JavaCompiler;
import javax.tools.ToolProvider;

/**
 * Whether README.md tells what is so: its lines of Java are compiled as one method, with each answer behind "// ->"
 * looked at; its tables tell all calls of the document's face and all tests. Run from the project's folder.
 */
public final class ReadmeTest {
    private static final Path README = Path.of("README.md");
    private static final Path TESTS = Path.of("src/test/java");
    private static final String EXAMPLE = "ReadmeExample";
    private static final Pattern BLOCK = Pattern.compile("```java\n(.*?)```", Pattern.DOTALL);
    private static final Pattern LINE = Pattern.compile("(.*?;)\\s*(?://(?: -> (.*?)(?:: .*)?| .*))?");
    private static final Pattern MADE = Pattern.compile("int (\\w+) = .*;");
    private static final Pattern CALLED = Pattern.compile("camp\\.(\\w+)\\(");
    private static final Pattern ROW = Pattern.compile("(?m)^\\| `(\\w+\\([\\w, ]*\\))` \\|.*\\| ([\\w, ]*)\\|$");
    private static final Pattern TEST_ROW = Pattern.compile("(?m)^\\| ((?:`\\w+Test`(?:, )?)+) \\|");
    private static final Check check = new Check();
    private static String readme;

    /** What the lines of README.md are compiled to. */
    interface Example {
        void run(Check check);
    }

    public static void main(String[] args) throws IOException, URISyntaxException, ReflectiveOperationException {
        readme = Files.readString(README);
        example();
        calls();
        tests();
        check.close();
    }

    private static void example() throws IOException, URISyntaxException, ReflectiveOperationException {
        List<String> lines = new ArrayList<>();
        Matcher block = BLOCK.matcher(readme);
        while (block.find()) {
            block.group(1).lines().filter(line -> !line.isBlank()).forEach(lines::add);
        }
        StringBuilder body = new StringBuilder();
        for (String line : lines) {
            body.append(withItsAnswer(line));
        }
        Path classes = Path.of(ReadmeTest.class.getProtectionDomain().getCodeSource().getLocation().toURI());
        boolean isCompiled = compile(body.toString(), classes);
        check.due("README's lines are compiled", isCompiled, true);
        if (isCompiled) {
            ((Example) Class.forName(EXAMPLE).getDeclaredConstructor().newInstance()).run(check);
        }
        Set<String> missing = new TreeSet<>();
        Face.calls().forEach(call -> missing.add(call.name()));
        Matcher called = CALLED.matcher(String.join("\n", lines));
        while (called.find()) {
            missing.remove(called.group(1));
        }
        check.due("calls that README's lines don't make", missing, Set.of());
    }

    /** The line as it stands, and a look at what it answers; its own comment is left behind it. */
    private static String withItsAnswer(String line) {
        Matcher parts = LINE.matcher(line);
        check.due("README's line is a statement: " + line, parts.matches(), true);
        String told = "\"" + line.replaceAll("\\s*//.*", "").replace("\"", "\\\"") + "\"";
        String answer = parts.matches() ? parts.group(2) : null;
        if (answer == null) {
            return line + "\n";
        }
        String statement = parts.group(1);
        if (answer.startsWith("throws ")) {
            return "check.due(" + told + ", Check.thrownBy(() -> { " + statement + " return \"nothing\"; }), "
                    + answer.substring("throws ".length()) + ".class);\n";
        }
        Matcher made = MADE.matcher(statement);
        if (made.matches()) {
            return line + "\ncheck.due(" + told + ", " + made.group(1) + ", " + answer + ");\n";
        }
        String call = statement.substring(0, statement.length() - 1);
        return "check.due(" + told + ", " + call + ", " + answer + ");\n";
    }

    /** The test's own class path is that of the example: its class is put where those of the tests are. */
    private static boolean compile(String body, Path classes) throws IOException {
        Path source = classes.resolve(EXAMPLE + ".java");
        Files.writeString(source, "final class " + EXAMPLE + " implements ReadmeTest.Example {\n"
                + "public void run(Check check) {\n" + body + "}\n}\n");
        JavaCompiler javac = ToolProvider.getSystemJavaCompiler();
        return javac != null && javac.run(null, null, null, "-cp", System.getProperty("java.class.path")
                + File.pathSeparator + classes, "-d", classes.toString(), source.toString()) == 0;
    }

    private static void calls() throws IOException {
        Set<String> due = new TreeSet<>();
        for (Face.Call call : Face.calls()) {
            String thrown = String.join(", ", call.thrown()).replace("IndexOutOfBoundsException", "bounds")
                    .replace("IllegalArgumentException", "argument").replace("IllegalStateException", "state");
            due.add(call.name() + "(" + String.join(", ", call.arguments()) + ") throws " + thrown);
        }
        Set<String> told = new TreeSet<>();
        Matcher row = ROW.matcher(readme);
        while (row.find()) {
            told.add(row.group(1) + " throws " + row.group(2).strip());
        }
        same("calls", told, due);
    }

    private static void same(String table, Set<String> told, Set<String> due) {
        Set<String> left = new TreeSet<>(due);
        left.removeAll(told);
        check.due(table + " that README's table has not", left, Set.of());
        Set<String> others = new TreeSet<>(told);
        others.removeAll(due);
        check.due(table + " of README's table that there are not", others, Set.of());
    }

    private static void tests() throws IOException {
        Set<String> due = new TreeSet<>();
        try (DirectoryStream<Path> tests = Files.newDirectoryStream(TESTS, "*Test.java")) {
            tests.forEach(test -> due.add(test.getFileName().toString().replace(".java", "")));
        }
        Set<String> told = new TreeSet<>();
        Matcher row = TEST_ROW.matcher(readme);
        while (row.find()) {
            told.addAll(List.of(row.group(1).replace("`", "").split(", ")));
        }
        same("tests", told, due);
    }
}
