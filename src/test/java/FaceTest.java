import java.lang.reflect.Constructor;
import java.lang.reflect.Field;
import java.lang.reflect.Method;
import java.lang.reflect.Modifier;
import java.nio.file.Files;
import java.nio.file.Path;
import java.util.Arrays;
import java.util.Set;
import java.util.TreeSet;
import java.util.regex.Pattern;
import java.util.stream.Collectors;

/** The document's whole face and nothing else, in the Java that LANGUAGE.md leaves. */
public final class FaceTest {
    private static final Set<String> METHODS = new TreeSet<>(Arrays.asList(
            "int fact(boolean,int,int)", "int harden(int,boolean)", "int weight(int,int,int)",
            "int clash(int)", "int settle()", "int support(int,int)", "int order(int)", "int find()",
            "int kept(int)", "int left(int,int)", "int truth(int)", "int surely(int)",
            "int better(int,int,int)", "int least(int)", "int size()"));

    private static final String[] RULED_OUT = {
        "throw", "try", "catch", "synchronized", "assert", "import", "package", "->", "::", "Exact\\b",
        "throws", "protected", "volatile", "native", "float", "double", "Object", "System", "Thread", "Random",
        "Float", "Double", "hashCode", "toString", "equals", "java", "while \\(true\\)", "static \\{"
    };

    private static final Set<Class<?>> FIELD_TYPES =
            Set.of(int.class, long.class, boolean.class, int[].class, long[].class, boolean[].class);

    private static final int MOST_PARAMETERS = 7;
    private static final int MOST_FIELDS = 20;
    private static final int MOST_LINES = 60;

    private static String face(Method m) {
        return m.getReturnType() + " " + m.getName() + Arrays.stream(m.getParameterTypes())
                .map(Class::getName).collect(Collectors.joining(",", "(", ")"));
    }

    private static void members(Check check) {
        Class<?> c = DefaultRepair.class;
        check.isTrue("the class is public", Modifier.isPublic(c.getModifiers()));
        check.isTrue("the class is final", Modifier.isFinal(c.getModifiers()));
        Set<String> open = new TreeSet<>();
        Set<String> names = new TreeSet<>();
        Set<String> hidden = new TreeSet<>();
        for (Method m : c.getDeclaredMethods()) {
            if (Modifier.isPrivate(m.getModifiers())) {
                hidden.add(m.getName());
            } else {
                open.add(face(m));
                names.add(m.getName());
                check.isTrue(m.getName() + " is public and of the object",
                        Modifier.isPublic(m.getModifiers()) && !Modifier.isStatic(m.getModifiers()));
            }
        }
        check.isTrue("the methods are those of the document: " + open, open.equals(METHODS));
        hidden.retainAll(names);
        check.isTrue("no private method has a public one's name: " + hidden, hidden.isEmpty());
        Constructor<?>[] constructors = c.getDeclaredConstructors();
        check.isTrue("one public constructor without parameters", constructors.length == 1
                && constructors[0].getParameterCount() == 0 && Modifier.isPublic(constructors[0].getModifiers()));
    }

    private static void fields(Check check) {
        Set<String> open = new TreeSet<>();
        for (Field f : DefaultRepair.class.getDeclaredFields()) {
            int m = f.getModifiers();
            if (!Modifier.isPrivate(m)) {
                open.add(f.getName());
                check.isTrue(f.getName() + " is a public int constant", f.getType() == int.class
                        && Modifier.isPublic(m) && Modifier.isStatic(m) && Modifier.isFinal(m));
            }
            check.isTrue(f.getName() + " is final if static", !Modifier.isStatic(m) || Modifier.isFinal(m));
        }
        check.isTrue("the constants are those of the document: " + open,
                open.equals(new TreeSet<>(Arrays.asList("BAD", "NO", "FULL"))));
        check.due("BAD", DefaultRepair.BAD, -1);
        check.due("NO", DefaultRepair.NO, -2);
        check.due("FULL", DefaultRepair.FULL, -3);
    }

    private static void words(Check check, String path) throws Exception {
        String code = Files.readString(Path.of(path)).replaceAll("(?s)/\\*.*?\\*/", "").replaceAll("//[^\n]*", "");
        for (String word : RULED_OUT) {
            String sought = word.matches("[A-Za-z]+") ? "\\b" + word + "\\b" : word;
            check.isTrue("the code has no " + word, !Pattern.compile(sought).matcher(code).find());
        }
    }

    /** Rules 1, 2, 3 and 11: types, how many fields and parameters, classes inside. */
    private static void sizes(Check check) {
        int fields = 0;
        for (Field f : DefaultRepair.class.getDeclaredFields()) {
            if (!Modifier.isStatic(f.getModifiers())) fields++;
            check.isTrue(f.getName() + " is of a simple type", FIELD_TYPES.contains(f.getType()));
        }
        check.isTrue(fields + " fields are not too many", fields <= MOST_FIELDS);
        for (Method m : DefaultRepair.class.getDeclaredMethods()) {
            check.isTrue(m.getName() + " has not too many parameters", m.getParameterCount() <= MOST_PARAMETERS);
        }
        for (Class<?> inside : DefaultRepair.class.getDeclaredClasses()) {
            int m = inside.getModifiers();
            check.isTrue(inside.getName() + " is static and not open",
                    Modifier.isStatic(m) && !Modifier.isPublic(m) && !Modifier.isProtected(m));
        }
    }

    /** Rule 11: methods stay short; rule 12: objects are made by the constructor alone. */
    private static void methodsInTheFile(Check check, String path) throws Exception {
        String head = "";
        int lines = 0;
        for (String line : Files.readAllLines(Path.of(path))) {
            lines++;
            if (line.matches(" {4}\\S.*\\) \\{")) {
                head = line.trim();
                lines = 0;
            }
            if (line.equals("    }")) check.isTrue(head + " stays short", lines <= MOST_LINES);
            if (line.matches(".*\\bnew\\b.*\\[.*")) {
                check.isTrue(line.trim() + " stands in the constructor", head.startsWith("public DefaultRepair()"));
            }
        }
    }

    public static void main(String[] args) throws Exception {
        Check check = new Check();
        members(check);
        fields(check);
        sizes(check);
        String path = args.length > 0 ? args[0] : "src/main/java/DefaultRepair.java";
        words(check, path);
        methodsInTheFile(check, path);
        check.end();
    }
}
