import java.io.IOException;
import java.lang.reflect.InvocationTargetException;
import java.lang.reflect.Method;
import java.lang.reflect.Modifier;
import java.nio.file.DirectoryStream;
import java.nio.file.Files;
import java.nio.file.Path;
import java.util.List;
import java.util.Set;
import java.util.TreeSet;
import java.util.regex.Matcher;
import java.util.regex.Pattern;

/** What README.md shows: its calls answer as it says, and the tests that it names are there. */
public final class ReadmeTest {
    private static final Checks CHECKS = new Checks();
    private static final String NEW_OBJECT = "PictureProof proof = new PictureProof();";
    private static final Pattern CALL = Pattern.compile(
            "proof\\.(\\w+)\\(([-0-9, ]+)\\);\\s+// (throws \\w+|[-\\w]+)(:.*)?");
    private static final Pattern NAMED_TEST = Pattern.compile("\\b([A-Z]\\w*Test)(?:\\.([a-z]\\w*))?");

    private final Set<String> shown = new TreeSet<>();
    private PictureProof proof;

    public static void main(String[] args) throws Exception {
        List<String> lines = Files.readAllLines(Path.of("README.md"));
        ReadmeTest test = new ReadmeTest();
        test.examples(lines);
        test.everyMethodIsShown();
        namedTestsAreThere(lines);
        CHECKS.end("ReadmeTest");
    }

    private void examples(List<String> lines) throws IllegalAccessException {
        boolean isExample = false;
        for (String line : lines) {
            if (line.startsWith("```")) {
                isExample = line.equals("```java");
            } else if (line.equals(NEW_OBJECT)) {
                proof = new PictureProof();
            } else if (isExample) {
                example(line);
            }
        }
    }

    private void example(String line) throws IllegalAccessException {
        Matcher call = CALL.matcher(line);
        CHECKS.same("'" + line + "' can be read", call.matches(), true);
        if (call.matches()) {
            CHECKS.same(line, answer(call.group(1), call.group(2).split(", ")), call.group(3));
        }
    }

    private String answer(String name, String[] numbers) throws IllegalAccessException {
        Object[] arguments = new Object[numbers.length];
        for (int i = 0; i < numbers.length; i++) {
            arguments[i] = Integer.valueOf(numbers[i]);
        }
        for (Method method : PictureProof.class.getMethods()) {
            if (method.getName().equals(name) && method.getParameterCount() == numbers.length) {
                shown.add(name);
                return answer(method, arguments);
            }
        }
        return "no such method";
    }

    private String answer(Method method, Object[] arguments) throws IllegalAccessException {
        try {
            Object answer = method.invoke(proof, arguments);
            return answer == null ? "nothing" : answer.toString();
        } catch (InvocationTargetException thrown) {
            return "throws " + thrown.getCause().getClass().getSimpleName();
        }
    }

    private void everyMethodIsShown() {
        Set<String> face = new TreeSet<>();
        for (Method method : PictureProof.class.getDeclaredMethods()) {
            if (Modifier.isPublic(method.getModifiers())) {
                face.add(method.getName());
            }
        }
        CHECKS.same("the methods shown", shown.toString(), face.toString());
    }

    private static void namedTestsAreThere(List<String> lines) throws IOException {
        Set<String> named = new TreeSet<>();
        for (String line : lines) {
            Matcher name = NAMED_TEST.matcher(line);
            while (name.find()) {
                named.add(name.group(1));
                if (name.group(2) != null && !name.group(2).equals("java")) {
                    CHECKS.same(name.group() + " is there", hasMethod(name.group(1), name.group(2)), true);
                }
            }
        }
        CHECKS.same("the tests named", named.toString(), testsThere().toString());
    }

    private static boolean hasMethod(String test, String name) {
        try {
            for (Method method : Class.forName(test).getDeclaredMethods()) {
                if (method.getName().equals(name)) {
                    return true;
                }
            }
        } catch (ClassNotFoundException missing) {
            return false;
        }
        return false;
    }

    private static Set<String> testsThere() throws IOException {
        Set<String> there = new TreeSet<>();
        try (DirectoryStream<Path> files = Files.newDirectoryStream(Path.of("src/test/java"), "*Test.java")) {
            for (Path file : files) {
                there.add(file.getFileName().toString().replace(".java", ""));
            }
        }
        return there;
    }
}
