import java.lang.reflect.Constructor;
import java.lang.reflect.Field;
import java.lang.reflect.Method;
import java.lang.reflect.Modifier;
import java.nio.file.Files;
import java.nio.file.Path;
import java.util.Arrays;
import java.util.Set;
import java.util.TreeSet;
import java.util.regex.Pattern;
import java.util.stream.Collectors;

/** The document's whole face and nothing else, in the Java that LANGUAGE.md leaves. */
public final class FaceTest {
    private static final Set<String> METHODS = new TreeSet<>(Arrays.asList(
            "int fact(boolean,int,int)", "int harden(int,boolean)", "int weight(int,int,int)",
            "int clash(int)", "int settle()", "int support(int,int)", "int order(int)", "int find()",
            "int kept(int)", "int left(int,int)", "int truth(int)", "int surely(int)",
            "int better(int,int,int)", "int least(int)", "int size()"));

    private static final String[] RULED_OUT = {
        "throw", "try", "catch", "synchronized", "assert", "import", "package", "->", "::", "Exact\\b"
    };

    private static String face(Method m) {
        return m.getReturnType() + " " + m.getName() + Arrays.stream(m.getParameterTypes())
                .map(Class::getName).collect(Collectors.joining(",", "(", ")"));
    }

    private static void members(Check check) {
        Class<?> c = DefaultRepair.class;
        check.isTrue("the class is public", Modifier.isPublic(c.getModifiers()));
        check.isTrue("the class is final", Modifier.isFinal(c.getModifiers()));
        Set<String> open = new TreeSet<>();
        Set<String> names = new TreeSet<>();
        Set<String> hidden = new TreeSet<>();
        for (Method m : c.getDeclaredMethods()) {
            if (Modifier.isPrivate(m.getModifiers())) {
                hidden.add(m.getName());
            } else {
                open.add(face(m));
                names.add(m.getName());
                check.isTrue(m.getName() + " is public and of the object",
                        Modifier.isPublic(m.getModifiers()) && !Modifier.isStatic(m.getModifiers()));
            }
        }
        check.isTrue("the methods are those of the document: " + open, open.equals(METHODS));
        hidden.retainAll(names);
        check.isTrue("no private method has a public one's name: " + hidden, hidden.isEmpty());
        Constructor<?>[] constructors = c.getDeclaredConstructors();
        check.isTrue("one public constructor without parameters", constructors.length == 1
                && constructors[0].getParameterCount() == 0 && Modifier.isPublic(constructors[0].getModifiers()));
    }

    private static void fields(Check check) {
        Set<String> open = new TreeSet<>();
        for (Field f : DefaultRepair.class.getDeclaredFields()) {
            int m = f.getModifiers();
            if (!Modifier.isPrivate(m)) {
                open.add(f.getName());
                check.isTrue(f.getName() + " is a public int constant", f.getType() == int.class
                        && Modifier.isPublic(m) && Modifier.isStatic(m) && Modifier.isFinal(m));
            }
            check.isTrue(f.getName() + " is final if static", !Modifier.isStatic(m) || Modifier.isFinal(m));
        }
        check.isTrue("the constants are those of the document: " + open,
                open.equals(new TreeSet<>(Arrays.asList("BAD", "NO", "FULL"))));
        check.due("BAD", DefaultRepair.BAD, -1);
        check.due("NO", DefaultRepair.NO, -2);
        check.due("FULL", DefaultRepair.FULL, -3);
    }

    private static void words(Check check, String path) throws Exception {
        String code = Files.readString(Path.of(path)).replaceAll("(?s)/\\*.*?\\*/", "").replaceAll("//[^\n]*", "");
        for (String word : RULED_OUT) {
            String sought = Character.isLetter(word.charAt(0)) && !word.startsWith("Exact") ? "\\b" + word + "\\b" : word;
            check.isTrue("the code has no " + word, !Pattern.compile(sought).matcher(code).find());
        }
    }

    public static void main(String[] args) throws Exception {
        Check check = new Check();
        members(check);
        fields(check);
        words(check, args.length > 0 ? args[0] : "src/main/java/DefaultRepair.java");
        check.end();
    }
}
