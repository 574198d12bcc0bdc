import java.io.IOException;
import java.lang.reflect.Field;
import java.lang.reflect.Method;
import java.lang.reflect.Modifier;
import java.nio.file.DirectoryStream;
import java.nio.file.Files;
import java.nio.file.Path;

/** README.md is there, names every call, constant and test, and its example is the one that runs here. */
public final class ReadmeTest {
    private static final Path README = Path.of("README.md");
    private static final Path TESTS = Path.of("src/test/java");
    private static final Due due = new Due();

    public static void main(String[] args) throws IOException {
        due.holds("README.md is there", Files.exists(README));
        if (Files.exists(README)) {
            String readme = Files.readString(README);
            namesCallsAndConstants(readme);
            namesTests(readme);
            showsTheExampleBelow(readme);
        }
        example();
        due.end();
    }

    private static void namesCallsAndConstants(String readme) {
        for (Method m : ReferenceRules.class.getDeclaredMethods()) {
            if (Modifier.isPublic(m.getModifiers())) {
                due.holds("README.md names " + m.getName(), readme.contains("`" + m.getName() + "("));
            }
        }
        for (Field f : ReferenceRules.class.getFields()) {
            due.holds("README.md names " + f.getName(), readme.contains("`" + f.getName() + "`"));
        }
    }

    private static void namesTests(String readme) throws IOException {
        due.holds("README.md names .ci/run", readme.contains(".ci/run"));
        try (DirectoryStream<Path> files = Files.newDirectoryStream(TESTS, "*.java")) {
            for (Path file : files) {
                String name = file.getFileName().toString().replace(".java", "");
                due.holds("README.md names " + name, readme.contains("`" + name + "`"));
            }
        }
    }

    private static void showsTheExampleBelow(String readme) throws IOException {
        String here = Files.readString(TESTS.resolve("ReadmeTest.java"));
        int start = readme.indexOf("```java\n");
        int end = readme.indexOf("```", start + 3);
        due.holds("README.md has an example", start >= 0 && end > start);
        if (start < 0 || end < start) {
            return;
        }
        int lines = 0;
        for (String line : readme.substring(start + 8, end).split("\n")) {
            String code = line.replaceAll("//.*", "").trim();
            if (!code.isEmpty()) {
                lines++;
                due.holds("the example's line " + code + " runs here", here.contains("\n        " + code + "\n"));
            }
        }
        due.is("the example's lines", lines, 14);
    }

    private static void example() {
        ReferenceRules x = new ReferenceRules();
        int animal = x.type(0);
        x.tell(10);
        int feed = x.member(animal, 0, 10, 0);
        x.tell(1);
        int face = x.face(10);
        int reference = x.reference(1, animal, 0);
        int meant = x.meant(reference, face);
        int phase = x.phase(reference, face, 1);

        int rex = x.thing(animal);
        int value = x.make(reference, face, rex);
        x.arg(0, x.box(7));
        int called = x.call(value);
        int result = x.result();

        due.is("animal", animal, 2);
        due.is("feed", feed, 0);
        due.is("face", face, 0);
        due.is("reference", reference, 0);
        due.is("meant", meant, feed);
        due.is("phase", phase, 2);
        due.is("rex", rex, 1);
        due.is("the box", x.of(2, 0), 1);
        due.is("value", value, 0);
        due.is("called", called, 1);
        due.is("result", result, 100 * feed + 7);
    }
}
