import java.lang.reflect.Method;
import java.lang.reflect.Modifier;
import java.net.URL;
import java.net.URLClassLoader;
import java.nio.file.DirectoryStream;
import java.nio.file.Files;
import java.nio.file.Path;
import java.util.ArrayList;
import java.util.List;
import java.util.Map;
import java.util.Set;
import java.util.TreeSet;
import java.util.regex.Matcher;
import java.util.regex.Pattern;
import javax.tools.ToolProvider;

/**
 * README.md: each call that it shows is made, and its answer compared with the one that it names.
 * The shown lines are compiled as they stand, so they are also Java.
 */
public final class ReadmeTest {
    private static final Pattern BLOCK = Pattern.compile("(?ms)^```java\\n(.*?)^```$");
    private static final Pattern SILENT = Pattern.compile("(DefaultRepair x = new DefaultRepair\\(\\)|for \\(.*\\) x\\..*);");
    private static final Pattern CALL =
            Pattern.compile("(?:int (\\w+) = )?(x\\.(\\w+)\\(.*\\));\\s*// (-?\\d+|BAD|NO|FULL)\\b.*");
    private static final Pattern CALL_ROW = Pattern.compile("(?m)^\\| `(\\w+)\\(([^)]*)\\)` \\| \\S.* \\| \\S.* \\|$");
    private static final Pattern CONSTANT_ROW = Pattern.compile("(?m)^\\| `([A-Z]+)` \\| (-?\\d+) \\| \\S.* \\|$");

    private static final Map<String, Integer> NAMED = Map.of("BAD", -1, "NO", -2, "FULL", -3);

    private final Check check = new Check();
    private final String text;
    private final List<String> shown = new ArrayList<>();
    private final List<Integer> due = new ArrayList<>();
    private final Set<String> called = new TreeSet<>();

    private ReadmeTest(String text) {
        this.text = text;
    }

    private static Set<String> methods(boolean withCounts) {
        Set<String> names = new TreeSet<>();
        for (Method m : DefaultRepair.class.getDeclaredMethods()) {
            if (Modifier.isPublic(m.getModifiers())) names.add(m.getName() + (withCounts ? m.getParameterCount() : ""));
        }
        return names;
    }

    /** A shown line as a line of the program that is run; what the call answers goes into its list. */
    private String line(String line) {
        if (line.isBlank() || SILENT.matcher(line).matches()) return line + "\n";
        Matcher call = CALL.matcher(line);
        check.isTrue("this line makes an object, or calls and names an answer: " + line, call.matches());
        if (!call.matches()) return "";
        shown.add(line);
        due.add(NAMED.containsKey(call.group(4)) ? NAMED.get(call.group(4)) : Integer.valueOf(call.group(4)));
        called.add(call.group(3));
        String name = call.group(1);
        return name == null
                ? "got.add(" + call.group(2) + ");\n"
                : "int " + name + " = " + call.group(2) + ";\ngot.add(" + name + ");\n";
    }

    private String program() {
        StringBuilder program = new StringBuilder("public final class ReadmeCalls {\n"
                + "public static void run(java.util.List<Integer> got) {\n");
        Matcher block = BLOCK.matcher(text);
        while (block.find()) {
            program.append("{\n");
            for (String line : block.group(1).split("\n")) program.append(line(line));
            program.append("}\n");
        }
        return program.append("}\n}\n").toString();
    }

    private static List<Integer> answers(String program) throws Exception {
        Path room = Files.createTempDirectory("readme");
        Path source = room.resolve("ReadmeCalls.java");
        Path compiled = room.resolve("ReadmeCalls.class");
        List<Integer> got = new ArrayList<>();
        try {
            Files.writeString(source, program);
            int code = ToolProvider.getSystemJavaCompiler().run(null, null, null,
                    "-cp", System.getProperty("java.class.path"), "-d", room.toString(), source.toString());
            if (code == 0) {
                try (URLClassLoader loader = new URLClassLoader(new URL[] {room.toUri().toURL()})) {
                    loader.loadClass("ReadmeCalls").getMethod("run", List.class).invoke(null, got);
                }
            }
        } finally {
            Files.deleteIfExists(source);
            Files.deleteIfExists(compiled);
            Files.deleteIfExists(room);
        }
        return got;
    }

    private void calls() throws Exception {
        List<Integer> got = answers(program());
        check.due("calls that were made", got.size(), shown.size());
        for (int k = 0; k < Math.min(got.size(), shown.size()); k++) check.due(shown.get(k), got.get(k), due.get(k));
        check.isTrue("each call is shown: " + called, called.equals(methods(false)));
        for (String constant : NAMED.keySet()) {
            check.isTrue(constant + " is shown as an answer", text.contains("// " + constant + ": "));
        }
    }

    private void tables() throws Exception {
        Set<String> rows = new TreeSet<>();
        Matcher row = CALL_ROW.matcher(text);
        while (row.find()) {
            int parameters = row.group(2).isEmpty() ? 0 : row.group(2).split(",").length;
            check.isTrue(row.group() + " is there once", rows.add(row.group(1) + parameters));
        }
        check.isTrue("each call has a row: " + rows, rows.equals(methods(true)));
        int constants = 0;
        Matcher constant = CONSTANT_ROW.matcher(text);
        while (constant.find()) {
            constants++;
            check.due(constant.group(1) + " as README.md tells it", Integer.parseInt(constant.group(2)),
                    DefaultRepair.class.getField(constant.group(1)).getInt(null));
        }
        check.due("constants that have a row", constants, NAMED.size());
    }

    private void words() throws Exception {
        String flowing = text.replaceAll("\\s+", " ");
        for (String said : new String[] {"`new DefaultRepair()`", "at most 512 calls after it has been made",
            "bit i for statement i", ".ci/run", "`../shared/tests`", "`javac`"}) {
            check.isTrue("README.md says " + said, flowing.contains(said));
        }
        try (DirectoryStream<Path> tests = Files.newDirectoryStream(Path.of("src/test/java"), "*.java")) {
            for (Path test : tests) {
                String name = test.getFileName().toString().replace(".java", "");
                check.isTrue("README.md tells of " + name, text.contains("`" + name + "`"));
            }
        }
    }

    public static void main(String[] args) throws Exception {
        ReadmeTest test = new ReadmeTest(Files.readString(Path.of("README.md")));
        test.calls();
        test.tables();
        test.words();
        test.check.end();
    }
}
