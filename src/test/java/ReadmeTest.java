import java.io.IOException;
import java.lang.reflect.Method;
import java.lang.reflect.Modifier;
import java.nio.file.Files;
import java.nio.file.Path;
import java.util.Arrays;
import java.util.Set;
import java.util.TreeSet;
import java.util.regex.Matcher;
import java.util.regex.Pattern;

/** The calls that README.md shows, done as they stand there: whoever copies them gets what is told. */
public final class ReadmeTest {
    private static final Pattern BLOCK = Pattern.compile("```java\n(.*?)```", Pattern.DOTALL);
    private static final Pattern CALL = Pattern.compile("book\\.(\\w+)\\(([^)]*)\\); +// ([^:]+): .+");
    private static final String FIRST_LINE = "TrialBook book = new TrialBook();";

    private final TrialBook book = new TrialBook();
    private final Set<String> shown = new TreeSet<>();
    private final Due due = new Due();

    private static int[] numbersOf(String list) {
        return list.isEmpty() ? new int[0] : Arrays.stream(list.split(", ")).mapToInt(Integer::decode).toArray();
    }

    private static Method methodOf(String name) {
        for (Method method : TrialBook.class.getDeclaredMethods()) {
            if (Modifier.isPublic(method.getModifiers()) && method.getName().equals(name)) {
                return method;
            }
        }
        throw new IllegalStateException("README.md calls what is not of the face: " + name);
    }

    private void hold(String line) throws ReflectiveOperationException {
        Matcher call = CALL.matcher(line);
        if (!call.matches()) {
            throw new IllegalStateException("README.md has a line that can't be done: " + line);
        }
        Object[] numbers = Arrays.stream(numbersOf(call.group(2))).boxed().toArray();
        Object answer = methodOf(call.group(1)).invoke(book, numbers);
        due.same(line, answer.toString(), call.group(3));
        shown.add(call.group(1));
    }

    private void holdAll(String text) throws ReflectiveOperationException {
        Matcher block = BLOCK.matcher(text);
        due.is("a block of Java in README.md", block.find(), true);
        for (String line : block.group(1).split("\n+")) {
            if (!line.equals(FIRST_LINE)) {
                hold(line);
            }
        }
        for (Method method : TrialBook.class.getDeclaredMethods()) {
            boolean isFace = Modifier.isPublic(method.getModifiers());
            due.is(method.getName() + " in README.md", shown.contains(method.getName()), isFace);
        }
    }

    public static void main(String[] args) throws IOException, ReflectiveOperationException {
        ReadmeTest test = new ReadmeTest();
        test.due.sentence("README.md says how to use the class");
        test.holdAll(Files.readString(Path.of(System.getProperty("trialbook.readme", "README.md"))));
        test.due.end();
    }
}
