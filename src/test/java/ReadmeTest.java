import java.io.IOException;
import java.lang.reflect.InvocationTargetException;
import java.lang.reflect.Method;
import java.lang.reflect.Modifier;
import java.nio.file.DirectoryStream;
import java.nio.file.Files;
import java.nio.file.Path;
import java.util.Arrays;
import java.util.List;
import java.util.Set;
import java.util.TreeSet;
import java.util.regex.Matcher;
import java.util.regex.Pattern;

/** What README.md says: its example's answers, every call of the face, and every test. */
public final class ReadmeTest {
    private static final Expect EXPECT = new Expect();
    private static final Path README = Path.of("README.md");
    private static final Path TESTS = Path.of("src/test/java");
    private static final Pattern CALL = Pattern.compile("office\\.(\\w+)\\(([-0-9, ]*)\\); +// ((?:throws )?[-\\w]+)(:.*)?");
    private static final Pattern NAMED_TEST = Pattern.compile("^\\| `(\\w+Test)` \\|.*");

    public static void main(String[] args) throws Exception {
        List<String> lines = Files.readAllLines(README);
        example(lines.subList(lines.indexOf("```java") + 1, lines.lastIndexOf("```")));
        calls(String.join("\n", lines));
        tests(lines);
        EXPECT.end();
    }

    private static void example(List<String> lines) throws ReflectiveOperationException {
        GoalseekOffice office = new GoalseekOffice();
        EXPECT.same("the example's first line", lines.get(0), "GoalseekOffice office = new GoalseekOffice();");
        for (String line : lines.subList(1, lines.size())) {
            Matcher call = CALL.matcher(line);
            EXPECT.same("that a call and its answer stand in: " + line, call.matches(), true);
            if (call.matches()) {
                EXPECT.same(line, answer(office, call.group(1), numbers(call.group(2))), call.group(3));
            }
        }
    }

    private static Object[] numbers(String told) {
        return told.isEmpty() ? new Object[0]
            : Arrays.stream(told.split(", ")).map(Integer::valueOf).toArray();
    }

    private static String answer(GoalseekOffice office, String name, Object[] numbers)
            throws ReflectiveOperationException {
        Class<?>[] kinds = new Class<?>[numbers.length];
        Arrays.fill(kinds, int.class);
        try {
            return String.valueOf(GoalseekOffice.class.getMethod(name, kinds).invoke(office, numbers));
        } catch (InvocationTargetException thrown) {
            return "throws " + thrown.getCause().getClass().getSimpleName();
        }
    }

    private static void calls(String readme) {
        for (Method method : GoalseekOffice.class.getDeclaredMethods()) {
            if (Modifier.isPublic(method.getModifiers())) {
                String told = "`" + method.getName() + "(";
                EXPECT.same("that README.md tells of " + method.getName(), readme.contains(told), true);
            }
        }
    }

    private static void tests(List<String> lines) throws IOException {
        Set<String> named = new TreeSet<>();
        for (String line : lines) {
            Matcher test = NAMED_TEST.matcher(line);
            if (test.matches()) {
                named.add(test.group(1));
            }
        }
        Set<String> there = new TreeSet<>();
        try (DirectoryStream<Path> files = Files.newDirectoryStream(TESTS, "*Test.java")) {
            for (Path file : files) {
                there.add(file.getFileName().toString().replace(".java", ""));
            }
        }
        EXPECT.same("the tests that README.md names", named.toString(), there.toString());
    }
}
