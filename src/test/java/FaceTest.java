import java.io.IOException;
import java.lang.reflect.Constructor;
import java.lang.reflect.Field;
import java.lang.reflect.Method;
import java.lang.reflect.Modifier;
import java.nio.file.Files;
import java.nio.file.Path;
import java.util.Arrays;
import java.util.Set;
import java.util.TreeSet;
import java.util.regex.Pattern;

/** The public face is the document's and no more; the source keeps clear of what LANGUAGE.md forbids by word. */
public final class FaceTest {
    private static final String[] FACE = {"type(1)", "under(2)", "loose(2)", "tell(1)", "untell(0)", "member(4)", "has(2)",
        "open(1)", "face(1)", "reference(3)", "meant(2)", "search(3)", "phase(3)", "exact(1)", "thing(1)", "box(1)", "of(2)",
        "place(2)", "make(3)", "arg(2)", "call(1)", "result(0)", "traced(1)", "count(1)", "clear(0)"};
    private static final String[] CONSTANTS = {"BAD", "FULL", "STATE", "NONE", "TWO", "CLASH", "NULL", "SIZE", "PLAIN"};
    private static final int[] AMOUNTS = {-1, -2, -3, -4, -5, -6, -21, -22, 99};
    private static final String[] FORBIDDEN = {"\\bthrows?\\b", "\\btry\\b", "\\bcatch\\b", "\\bsynchronized\\b",
        "\\bassert\\b", "\\bimport\\b", "\\bpackage\\b", "Exact\\(", "->", "::", "System\\.(?!arraycopy)"};
    private static final Due due = new Due();

    public static void main(String[] args) throws IOException, ReflectiveOperationException {
        methods();
        constants();
        constructors();
        nestedMethodsHaveOtherNames();
        words();
        due.end();
    }

    private static void methods() {
        Set<String> found = new TreeSet<>();
        for (Method m : ReferenceRules.class.getDeclaredMethods()) {
            if (!Modifier.isPrivate(m.getModifiers()) && !m.isSynthetic()) {
                due.holds(m + " is public and gives an int", Modifier.isPublic(m.getModifiers()) && m.getReturnType() == int.class);
                due.holds(m + " takes ints", Arrays.stream(m.getParameterTypes()).allMatch(t -> t == int.class));
                found.add(m.getName() + "(" + m.getParameterCount() + ")");
            }
        }
        due.holds("the methods are " + found, found.equals(new TreeSet<>(Arrays.asList(FACE))));
    }

    private static void constants() throws ReflectiveOperationException {
        Set<String> found = new TreeSet<>();
        for (Field f : ReferenceRules.class.getDeclaredFields()) {
            if (!Modifier.isPrivate(f.getModifiers())) {
                due.holds(f + " is constant", Modifier.isPublic(f.getModifiers()) && Modifier.isStatic(f.getModifiers())
                    && Modifier.isFinal(f.getModifiers()));
                found.add(f.getName());
            }
        }
        due.holds("the constants are " + found, found.equals(new TreeSet<>(Arrays.asList(CONSTANTS))));
        for (int i = 0; i < CONSTANTS.length; i++) {
            due.is(CONSTANTS[i], ReferenceRules.class.getField(CONSTANTS[i]).getInt(null), AMOUNTS[i]);
        }
    }

    private static void constructors() {
        Constructor<?>[] all = ReferenceRules.class.getDeclaredConstructors();
        due.is("constructors", all.length, 1);
        due.holds("it is public", Modifier.isPublic(all[0].getModifiers()));
        due.is("its parameters", all[0].getParameterCount(), 0);
        due.holds("the class is public and final", Modifier.isPublic(ReferenceRules.class.getModifiers())
            && Modifier.isFinal(ReferenceRules.class.getModifiers()));
    }

    private static void nestedMethodsHaveOtherNames() {
        Set<String> names = new TreeSet<>();
        for (String method : FACE) {
            names.add(method.substring(0, method.indexOf('(')));
        }
        for (Class<?> nested : ReferenceRules.class.getDeclaredClasses()) {
            due.holds(nested + " is static", Modifier.isStatic(nested.getModifiers()));
            for (Method m : nested.getDeclaredMethods()) {
                due.holds(m + " has a name of its own", !names.contains(m.getName()));
            }
        }
    }

    private static void words() throws IOException {
        String source = Files.readString(Path.of("src/main/java/ReferenceRules.java"));
        String code = source.replaceAll("(?s)/\\*.*?\\*/", "").replaceAll("//[^\n]*", "");
        for (String word : FORBIDDEN) {
            due.holds("the source is without " + word, !Pattern.compile(word).matcher(code).find());
        }
    }
}
