import java.lang.reflect.Method;
import java.nio.file.Files;
import java.nio.file.Path;
import java.util.List;
import java.util.regex.Matcher;
import java.util.regex.Pattern;

/** Every promise has its cases, each case quotes the document, and whatever a promise refuses or names NONE has a case. */
public final class SentencesTest {
    private static final Due due = new Due();

    public static void main(String[] args) throws Exception {
        String document = Files.readString(Path.of("../shared/DOC.md"));
        List<String> tests = Cases.testNames();
        Matcher promise = Pattern.compile("(?m)^## Promise (\\d+): .*\\n([^#]*)").matcher(document);
        int promises = 0;
        while (promise.find()) {
            promises++;
            String start = String.format("Promise%02d", Integer.parseInt(promise.group(1)));
            due.is("tests named " + start, tests.stream().filter(name -> name.startsWith(start)).count(), 1);
            for (String name : tests) {
                if (name.startsWith(start)) {
                    refusalsAreQuoted(name, promise.group(2));
                }
            }
        }
        due.is("promises", promises, tests.size());
        for (String name : tests) {
            casesQuote(name, document);
        }
        due.end();
    }

    private static void refusalsAreQuoted(String name, String section) throws Exception {
        for (String word : new String[] {"UNKNOWN", "OUTSIDE", "STATE", "FULL", "NONE", "empty"}) {
            if (section.contains(word)) {
                boolean quoted = false;
                for (Method one : Cases.of(Class.forName(name))) {
                    quoted |= one.getAnnotation(Says.class).value().contains(word);
                }
                due.holds(name + " has a case for " + word, quoted);
            }
        }
    }

    private static void casesQuote(String name, String document) throws Exception {
        for (Method one : Cases.of(Class.forName(name))) {
            String words = one.getAnnotation(Says.class).value();
            due.holds("the document says: " + words, document.contains(words));
            due.holds(name + "." + one.getName() + " can be broken", one.getAnnotationsByType(Broken.class).length > 0);
        }
    }
}
