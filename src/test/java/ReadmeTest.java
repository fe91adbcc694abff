import java.io.IOException;
import java.io.StringWriter;
import java.io.Writer;
import java.lang.reflect.Method;
import java.lang.reflect.Modifier;
import java.net.URL;
import java.net.URLClassLoader;
import java.nio.file.Files;
import java.nio.file.Path;
import java.util.ArrayList;
import java.util.List;
import java.util.Map;
import java.util.Set;
import java.util.TreeMap;
import java.util.TreeSet;
import java.util.function.BiConsumer;
import java.util.regex.Matcher;
import java.util.regex.Pattern;
import javax.tools.JavaCompiler;
import javax.tools.ToolProvider;

/** What README.md shows of the class's use: its code is compiled and run, and each call gives the answer told behind it. */
public final class ReadmeTest {
    private static final Path README = Path.of("README.md");
    private static final Path TESTS = Path.of("src/test/java");
    private static final String MADE = "ReadmeUse";
    private static final Pattern NEW = Pattern.compile("OldLadder x = new OldLadder\\(\\);( *//.*)?");
    private static final Pattern CALL = Pattern.compile("((?:x\\.(\\w+)|tell)\\(.*\\)); *// *(.*)");
    private static final Pattern ANSWER = Pattern.compile("(-?\\d+|0b[01]+|NONE|UNKNOWN|OUTSIDE|NOT|FULL)(: \\S.*)?");
    private static final Map<String, Integer> CONSTANTS = Map.of("NONE", OldLadder.NONE, "UNKNOWN", OldLadder.UNKNOWN,
        "OUTSIDE", OldLadder.OUTSIDE, "NOT", OldLadder.NOT, "FULL", OldLadder.FULL);
    private static final Due DUE = new Due();

    private final List<String> lines;
    private final StringBuilder members = new StringBuilder();
    private final StringBuilder body = new StringBuilder();
    private final Map<Integer, Long> told = new TreeMap<>();
    private final Map<Integer, Long> given = new TreeMap<>();
    private final Set<String> shown = new TreeSet<>();

    private ReadmeTest(List<String> lines) {
        this.lines = lines;
    }

    public static void main(String[] args) throws Exception {
        DUE.about("README.md");
        ReadmeTest test = new ReadmeTest(Files.readAllLines(README));
        test.readBlocks();
        test.runCode();
        test.holdAnswers();
        test.showsTheWholeFace();
        test.namesEveryTest();
        DUE.end("ReadmeTest");
    }

    private void readBlocks() {
        int begun = -1;
        for (int i = 0; i < lines.size(); i++) {
            if (begun < 0 && lines.get(i).equals("```java")) {
                begun = i + 1;
            } else if (begun >= 0 && lines.get(i).equals("```")) {
                readBlock(begun, i);
                begun = -1;
            }
        }
        DUE.holds("every block of code has an end", begun < 0);
    }

    /** A block is a method of its own, or a run of calls on a new object. */
    private void readBlock(int from, int to) {
        if (from < to && lines.get(from).startsWith("static ")) {
            for (int i = from; i < to; i++) {
                members.append(lines.get(i)).append('\n');
            }
            return;
        }
        body.append("{\n");
        for (int i = from; i < to; i++) {
            readLine(lines.get(i).trim(), i + 1);
        }
        body.append("}\n");
    }

    private void readLine(String line, int number) {
        if (NEW.matcher(line).matches()) {
            body.append("OldLadder x = new OldLadder();\n");
            return;
        }
        Matcher call = CALL.matcher(line);
        Matcher answer = ANSWER.matcher(call.matches() ? call.group(3) : "");
        DUE.holds("line " + number + " is a call with its answer: " + line, answer.matches());
        if (answer.matches()) {
            body.append("given.accept(").append(number).append(", (long) ").append(call.group(1)).append(");\n");
            told.put(number, valueOf(answer.group(1)));
            shown.add(answer.group(1));
            shown.add(call.group(2) == null ? "tell" : call.group(2));
        }
    }

    private static long valueOf(String answer) {
        if (CONSTANTS.containsKey(answer)) {
            return CONSTANTS.get(answer);
        }
        return answer.startsWith("0b") ? Long.parseLong(answer.substring(2), 2) : Long.parseLong(answer);
    }

    private void runCode() throws Exception {
        Path dir = Files.createTempDirectory("readme");
        Path source = dir.resolve(MADE + ".java");
        Files.writeString(source, "public final class " + MADE + " {\n" + members
            + "public static void run(java.util.function.BiConsumer<Integer, Long> given) {\n" + body + "}\n}\n");
        try (URLClassLoader loader = new URLClassLoader(new URL[] {dir.toUri().toURL()})) {
            if (compiles(dir, source)) {
                BiConsumer<Integer, Long> taken = given::put;
                loader.loadClass(MADE).getMethod("run", BiConsumer.class).invoke(null, taken);
            }
        } finally {
            remove(dir);
        }
    }

    private static boolean compiles(Path dir, Path source) throws IOException {
        JavaCompiler javac = ToolProvider.getSystemJavaCompiler();
        Writer said = new StringWriter();
        List<String> options = List.of("-d", dir.toString(), "-cp", System.getProperty("java.class.path"));
        boolean so;
        try (var files = javac.getStandardFileManager(null, null, null)) {
            so = javac.getTask(said, files, null, options, null, files.getJavaFileObjects(source)).call();
        }
        DUE.holds("the code compiles: " + said, so);
        return so;
    }

    private static void remove(Path dir) throws IOException {
        try (var inside = Files.list(dir)) {
            for (Path one : inside.toList()) {
                Files.delete(one);
            }
        }
        Files.delete(dir);
    }

    private void holdAnswers() {
        DUE.holds("there are answers", !told.isEmpty());
        for (int number : told.keySet()) {
            String line = lines.get(number - 1).trim();
            DUE.holds("line " + number + " was run: " + line, given.containsKey(number));
            if (given.containsKey(number)) {
                DUE.is("line " + number + ": " + line, given.get(number), told.get(number));
            }
        }
    }

    private void showsTheWholeFace() {
        for (Method m : OldLadder.class.getDeclaredMethods()) {
            if (Modifier.isPublic(m.getModifiers())) {
                DUE.holds("it shows " + m.getName(), shown.contains(m.getName()));
            }
        }
        for (String one : CONSTANTS.keySet()) {
            DUE.holds("it shows " + one, shown.contains(one));
        }
    }

    /** It names each test that there is, and none that there is not. */
    private void namesEveryTest() throws IOException {
        Set<String> there = new TreeSet<>();
        try (var files = Files.list(TESTS)) {
            for (Path one : files.toList()) {
                String name = one.getFileName().toString();
                if (name.endsWith("Test.java")) {
                    there.add(name.substring(0, name.length() - ".java".length()));
                }
            }
        }
        Set<String> named = new TreeSet<>();
        Matcher m = Pattern.compile("`(\\w+Test)`").matcher(String.join("\n", lines));
        while (m.find()) {
            named.add(m.group(1));
        }
        DUE.holds("tests named " + named + ", there " + there, named.equals(there));
        DUE.holds("it says how to run them", lines.stream().anyMatch(line -> line.trim().equals(".ci/run")));
        DUE.holds(".ci/run can be run", Files.isExecutable(Path.of(".ci/run")));
    }
}
