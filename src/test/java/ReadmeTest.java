import java.io.File;
import java.io.IOException;
import java.net.URL;
import java.net.URLClassLoader;
import java.nio.file.Files;
import java.nio.file.Path;
import java.util.ArrayList;
import java.util.List;
import java.util.Set;
import java.util.TreeSet;
import java.util.regex.Matcher;
import java.util.regex.Pattern;
import javax.tools.JavaCompiler;
import javax.tools.ToolProvider;

/** README.md tells no call of the class whose answer is another one; its Java is compiled as it stands there. */
final class ReadmeTest {
    private static final int MOST_CALLS = 512;
    private static final Path README = Path.of("README.md"), TESTS = Path.of("src/test/java"), OUT = Path.of("out/readme");
    private static final Pattern SHOWN = Pattern.compile("(x\\.(\\w+)\\(.*?\\)); +// (-?\\d+|[A-Z]+)\\b.*");
    private static final Pattern FED = Pattern.compile("for \\(char letter : .*\\) x\\.feed\\(letter\\);");
    private static final Check check = new Check();

    /** A call that README.md shows, with the answer behind it. */
    private record Shown(String call, String method, int answer) {
    }

    public static void main(String[] args) throws IOException, ReflectiveOperationException {
        List<String> lines = Files.readAllLines(README);
        List<String> code = javaOf(lines);
        List<Shown> shown = shownBy(code);
        answersAsTold(code, shown);
        showsEveryCall(shown);
        isShortEnough(code, shown);
        tellsTheRefusals(lines);
        tellsEveryTest(String.join("\n", lines));
        check.end();
    }

    private static List<String> javaOf(List<String> lines) {
        List<String> code = new ArrayList<>();
        boolean isJava = false;
        for (String line : lines) {
            if (line.startsWith("```")) {
                isJava = line.equals("```java");
            } else if (isJava && !line.isEmpty()) {
                code.add(line);
            }
        }
        return code;
    }

    /** A line that names x but shows no answer would be tested by nothing, so it must be one of the two known forms. */
    private static List<Shown> shownBy(List<String> code) {
        List<Shown> shown = new ArrayList<>();
        for (String line : code) {
            Matcher found = SHOWN.matcher(line);
            if (found.matches()) {
                shown.add(new Shown(found.group(1), found.group(2), Script.number(found.group(3))));
            } else {
                boolean isCall = line.contains("x.") && !FED.matcher(line).matches();
                check.holds("README shows an answer behind " + line, !isCall);
            }
        }
        return shown;
    }

    private static void answersAsTold(List<String> code, List<Shown> shown) throws IOException, ReflectiveOperationException {
        int[] answers = answersOf(code);
        check.due("calls that README shows an answer of", answers.length, shown.size());
        for (int i = 0; i < answers.length; i++) {
            check.due("README: " + shown.get(i).call, answers[i], shown.get(i).answer);
        }
    }

    private static int[] answersOf(List<String> code) throws IOException, ReflectiveOperationException {
        List<String> source = new ArrayList<>(List.of(
            "public final class Readme {", "    public static int[] answers() {",
            "java.util.List<Integer> answers = new java.util.ArrayList<>();"));
        for (String line : code) {
            Matcher found = SHOWN.matcher(line);
            source.add(found.matches() ? "answers.add(" + found.group(1) + ");" : line);
        }
        source.addAll(List.of("return answers.stream().mapToInt(Integer::intValue).toArray();", "    }", "}"));
        Files.createDirectories(OUT);
        Path file = OUT.resolve("Readme.java");
        Files.write(file, source);
        JavaCompiler compiler = ToolProvider.getSystemJavaCompiler();
        String path = System.getProperty("java.class.path");
        int failed = compiler.run(null, null, null, "-cp", path, "-d", OUT.toString(), file.toString());
        check.due("compiling the Java of README", failed, 0);
        if (failed != 0) {
            return new int[0];
        }
        try (URLClassLoader loader = new URLClassLoader(new URL[] {OUT.toUri().toURL()})) {
            return (int[]) loader.loadClass("Readme").getMethod("answers").invoke(null);
        }
    }

    private static void showsEveryCall(List<Shown> shown) {
        Set<String> methods = new TreeSet<>();
        for (Shown one : shown) {
            methods.add(one.method);
        }
        check.due("methods that README shows a call of: " + methods, methods.size(), 36);
    }

    /** The texts of the story are fed letter by letter, a call each. */
    private static void isShortEnough(List<String> code, List<Shown> shown) {
        int calls = shown.size();
        Matcher text = Pattern.compile("\"([^\"]*)\"").matcher(String.join("\n", code));
        while (text.find()) {
            calls += text.group(1).length();
        }
        check.holds("README's story of " + calls + " calls is no longer than an object is used", calls <= MOST_CALLS);
    }

    private static void tellsTheRefusals(List<String> lines) {
        String[] rows = {"| `NONE` " + MatNations.NONE + " |", "| `BAD` " + MatNations.BAD + " |",
            "| `STATE` " + MatNations.STATE + " |", "| `FULL` " + MatNations.FULL + " |"};
        for (String row : rows) {
            check.holds("README tells " + row, lines.stream().anyMatch(line -> line.startsWith(row)));
        }
    }

    private static void tellsEveryTest(String page) {
        check.holds("README tells of .ci/run", page.contains("\n    .ci/run\n"));
        Set<String> there = new TreeSet<>();
        for (File file : TESTS.toFile().listFiles()) {
            if (file.getName().endsWith("Test.java")) {
                there.add(file.getName().replace(".java", ""));
            }
        }
        Set<String> told = new TreeSet<>();
        Matcher named = Pattern.compile("\\b[A-Z]\\w*Test\\b").matcher(page);
        while (named.find()) {
            told.add(named.group());
        }
        check.holds("README tells of the tests " + there + ", not " + told, told.equals(there));
    }
}
