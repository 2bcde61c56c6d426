import java.io.IOException;
import java.lang.reflect.Method;
import java.lang.reflect.Modifier;
import java.net.URL;
import java.net.URLClassLoader;
import java.nio.file.Files;
import java.nio.file.Path;
import java.util.ArrayList;
import java.util.Comparator;
import java.util.List;
import java.util.TreeSet;
import java.util.regex.Matcher;
import java.util.regex.Pattern;
import java.util.stream.Collectors;
import java.util.stream.Stream;
import javax.tools.ToolProvider;

/** README.md: its example is compiled and answers as it says; it uses each call; each test is named. */
public final class ReadmeTest {
    private static final Path README = Path.of("README.md");
    private static final Path TESTS = Path.of("src/test/java");
    private static final String FIRST_LINE = "RuleBooks x = new RuleBooks();";
    /** A statement, with the name that it gives to its answer if it gives one, and the answer due. */
    private static final Pattern LINE = Pattern.compile("(?:int (\\w+) = )?(\\S.*);\\s+// (-?\\d+|[A-Z]+): .+");

    private final Check check = new Check();
    private final String text;
    private final List<String> example = new ArrayList<>();
    private final StringBuilder body = new StringBuilder();

    private ReadmeTest() throws IOException {
        text = Files.readString(README);
        Matcher blocks = Pattern.compile("(?s)```java\n(.*?)```").matcher(text);
        while (blocks.find()) {
            example.addAll(blocks.group(1).lines().toList());
        }
    }

    public static void main(String[] args) throws IOException, ReflectiveOperationException {
        ReadmeTest test = new ReadmeTest();
        test.answers();
        test.usesEachCall();
        test.namesEachTest();
        test.check.end();
    }

    private void answers() throws IOException, ReflectiveOperationException {
        check.dueText("the first line", example.isEmpty() ? "" : example.get(0), FIRST_LINE);
        List<String> lines = example.subList(Math.min(1, example.size()), example.size());
        for (int i = 0; i < lines.size(); i++) {
            addLine(lines.get(i), i);
        }
        int[][] answers = answersOf("public final class Example { public static int[][] answers() { "
                + "int[][] answers = new int[" + lines.size() + "][2];\n"
                + FIRST_LINE + "\n" + body + "return answers; } }\n");
        for (int i = 0; i < answers.length; i++) {
            check.due(lines.get(i), answers[i][0], answers[i][1]);
        }
    }

    /** The line itself, and what keeps its answer and the one due. */
    private void addLine(String line, int i) {
        Matcher parts = LINE.matcher(line);
        if (!parts.matches()) {
            check.dueText(line, "no call with its answer", "one");
            return;
        }
        String name = parts.group(1) == null ? "unnamed" + i : parts.group(1);
        String due = parts.group(3);
        body.append("int ").append(name).append(" = ").append(parts.group(2)).append(";\n");
        body.append("answers[").append(i).append("][0] = ").append(name).append(";\n");
        body.append("answers[").append(i).append("][1] = ")
                .append(Character.isLetter(due.charAt(0)) ? "RuleBooks." + due : due).append(";\n");
    }

    private static int[][] answersOf(String source) throws IOException, ReflectiveOperationException {
        Path place = Files.createTempDirectory("readme");
        try {
            Path file = Files.writeString(place.resolve("Example.java"), source);
            int failed = ToolProvider.getSystemJavaCompiler().run(null, null, null,
                    "-cp", System.getProperty("java.class.path"), "-d", place.toString(), file.toString());
            if (failed != 0) {
                throw new IllegalStateException("the example does not compile");
            }
            try (URLClassLoader loader = new URLClassLoader(new URL[] {place.toUri().toURL()})) {
                return (int[][]) loader.loadClass("Example").getMethod("answers").invoke(null);
            }
        } finally {
            try (Stream<Path> made = Files.walk(place)) {
                made.sorted(Comparator.reverseOrder()).forEach(path -> path.toFile().delete());
            }
        }
    }

    private void usesEachCall() {
        String whole = String.join("\n", example);
        for (Method method : RuleBooks.class.getDeclaredMethods()) {
            if (Modifier.isPublic(method.getModifiers())) {
                check.due("uses of " + method.getName(), whole.contains("x." + method.getName() + "(") ? 1 : 0, 1);
            }
        }
    }

    private void namesEachTest() throws IOException {
        TreeSet<String> named = new TreeSet<>();
        Matcher rows = Pattern.compile("(?m)^\\| `(\\w+Test)` \\|").matcher(text);
        while (rows.find()) {
            named.add(rows.group(1));
        }
        try (Stream<Path> files = Files.list(TESTS)) {
            TreeSet<String> there = files.map(file -> file.getFileName().toString())
                    .filter(name -> name.endsWith("Test.java")).map(name -> name.replace(".java", ""))
                    .collect(Collectors.toCollection(TreeSet::new));
            check.dueText("the tests in the tables", named.toString(), there.toString());
        }
    }
}
