import java.lang.reflect.Method;
import java.lang.reflect.Modifier;
import java.nio.file.Files;
import java.nio.file.Path;
import java.util.regex.Matcher;
import java.util.regex.Pattern;
import java.util.stream.Stream;

/** README.md tells of the class as it is; it is run from the project's root. */
public final class ReadmeTest {
    private static final Pattern TYPED = Pattern.compile("for \\(char c : \"([^\"]*)\"\\.toCharArray\\(\\)\\) x\\.letter\\(c\\);");
    private static final Pattern ASKED = Pattern.compile("x\\.(\\w+)\\(([^)]*)\\); *// (-?\\d+): .*");
    private static final Due due = new Due();

    public static void main(String[] args) throws Exception {
        String readme = Files.readString(Path.of("README.md"));
        example(readme.split("```java\n")[1].split("```")[0]);
        for (Method method : RiverLessons.class.getDeclaredMethods()) {
            if (Modifier.isPublic(method.getModifiers())) {
                due.holds(method.getName() + " is told with its arguments", toldWithArguments(readme, method));
            }
        }
        for (Class<?> inside : RiverLessons.class.getDeclaredClasses()) {
            due.holds(inside.getSimpleName() + " is told", readme.contains("| `" + inside.getSimpleName() + "` |"));
        }
        tests(readme);
        due.end();
    }

    private static void example(String lines) throws Exception {
        RiverLessons x = null;
        for (String line : lines.split("\n")) {
            Matcher typed = TYPED.matcher(line);
            Matcher asked = ASKED.matcher(line);
            if (line.equals("RiverLessons x = new RiverLessons();")) {
                x = new RiverLessons();
            } else if (typed.matches()) {
                Due.typed(x, typed.group(1));
            } else if (asked.matches()) {
                due.is(line, answer(x, asked.group(1), asked.group(2)), Long.parseLong(asked.group(3)));
            } else {
                due.holds("a line of the example is understood: " + line, false);
            }
        }
    }

    /** The example has no argument but ints. */
    private static long answer(RiverLessons x, String name, String arguments) throws Exception {
        String[] told = arguments.isEmpty() ? new String[0] : arguments.split(", ");
        Object[] numbers = new Object[told.length];
        Class<?>[] types = new Class<?>[told.length];
        for (int i = 0; i < told.length; i++) {
            numbers[i] = Integer.parseInt(told[i]);
            types[i] = int.class;
        }
        return ((Number) RiverLessons.class.getMethod(name, types).invoke(x, numbers)).longValue();
    }

    private static boolean toldWithArguments(String readme, Method method) {
        Matcher told = Pattern.compile("`" + method.getName() + "\\(([^)]*)\\)`").matcher(readme);
        return told.find() && (told.group(1).isEmpty() ? 0 : told.group(1).split(", ").length) == method.getParameterCount();
    }

    /** Tests of the promises are told together, as from the first to the last. */
    private static void tests(String readme) throws Exception {
        try (Stream<Path> files = Files.list(Path.of("src/test/java"))) {
            files.map(file -> file.getFileName().toString().replace(".java", ""))
                .filter(name -> name.endsWith("Test") && !name.matches("Promise\\d\\d.*"))
                .forEach(name -> due.holds(name + " is told", readme.contains("| `" + name + "` |")));
        }
        due.holds("the tests of the promises are told", readme.contains("| `Promise01NewObjectTest` to `Promise24DigestTest` |"));
    }
}
