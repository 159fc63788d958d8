import java.io.IOException;
import java.lang.reflect.InvocationTargetException;
import java.lang.reflect.Method;
import java.nio.file.Files;
import java.nio.file.Path;
import java.util.ArrayList;
import java.util.Arrays;
import java.util.Comparator;
import java.util.List;
import java.util.function.IntUnaryOperator;
import java.util.stream.Collectors;
import java.util.stream.Stream;

/**
 * What the tests named by a promise have in common: each method with @Says is a case, for one boundary that the document
 * names. They are found by reflection, so that none can be left out of a run.
 */
abstract class Cases {
    static final int NONE = -1, UNKNOWN = -101, OUTSIDE = -102, STATE = -103, FULL = -104;
    static final int LOW = Integer.MIN_VALUE, HIGH = Integer.MAX_VALUE;

    /** Two plain reaches, both into the sea, with 1 of water, not wild; a governess at the first. */
    static final String SMALL = "r10-,r10-;0";
    /** As long as a river can be: seven reaches, one behind the other, and three governesses, at the last. */
    static final String LONG = "r10-,r100,r101,r102,r103,r104,r105;6,6,6";

    /** The names of all tests that are named by a promise; they are run from the project's root. */
    static List<String> testNames() throws IOException {
        try (Stream<Path> files = Files.list(Path.of("src/test/java"))) {
            return files.map(file -> file.getFileName().toString()).filter(name -> name.matches("Promise\\d\\d\\w+Test\\.java"))
                .map(name -> name.replace(".java", "")).sorted().collect(Collectors.toList());
        }
    }

    static List<Method> of(Class<?> test) {
        List<Method> cases = new ArrayList<>(Arrays.asList(test.getDeclaredMethods()));
        cases.removeIf(method -> method.getAnnotation(Says.class) == null);
        cases.sort(Comparator.comparing(Method::getName));
        return cases;
    }

    static void runAll(Class<?> test) {
        Due due = new Due();
        for (Method one : of(test)) {
            run(one, due);
        }
        due.end();
    }

    /** How many answers of one case are not as due; its names come from outside, where the class may be another. */
    static int wrongIn(String test, String name) throws ReflectiveOperationException {
        Due due = new Due();
        due.hush();
        run(Class.forName(test, true, Cases.class.getClassLoader()).getDeclaredMethod(name, Due.class), due);
        return due.wrong();
    }

    private static void run(Method one, Due due) {
        due.begin(one.getDeclaringClass().getSimpleName() + "." + one.getName());
        try {
            one.setAccessible(true);
            one.invoke(null, due);
        } catch (InvocationTargetException thrown) {
            due.holds("no call throws: " + thrown.getCause(), false);
        } catch (IllegalAccessException closed) {
            due.holds("the case can be called: " + closed, false);
        }
    }

    static RiverLessons none() {
        return new RiverLessons();
    }

    static RiverLessons typed(String text) {
        return Due.typed(none(), text);
    }

    static RiverLessons river(String text) {
        return Due.river(text);
    }

    /** Lets so many months go by. */
    static RiverLessons months(RiverLessons x, int howMany) {
        for (int i = 0; i < howMany; i++) {
            x.month();
        }
        return x;
    }

    /** Asks by each of the numbers: all have the same answer. */
    static void each(Due due, String call, int want, IntUnaryOperator ask, int... numbers) {
        for (int number : numbers) {
            due.is(call + " of " + number, ask.applyAsInt(number), want);
        }
    }

    /** A refused call leaves all as it was, an image, too. */
    static void changesNothing(Due due, RiverLessons x, Runnable refused) {
        long before = x.digest();
        refused.run();
        due.is("digest behind a refusal", x.digest(), before);
    }
}
