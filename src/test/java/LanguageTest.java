import java.nio.file.Files;
import java.nio.file.Path;
import java.util.regex.Matcher;
import java.util.regex.Pattern;

/** What LANGUAGE.md forbids and can be seen in the text of the class; it is run from the project's root. */
public final class LanguageTest {
    private static final String[] FORBIDDEN = {
        "\\bthrow\\b", "\\bthrows\\b", "\\btry\\b", "\\bcatch\\b", "\\bsynchronized\\b", "\\bassert\\b", "->", "::",
        "\\bimport\\b", "\\bpackage\\b", "\\bvar\\b", "Exact\\b", "\\bprotected\\b", "\\bnative\\b", "\\bSystem\\.(?!arraycopy\\b)",
        "\\bThread\\b", "\\bhashCode\\b", "\\btoString\\b", "\\bfloat\\b", "\\bdouble\\b", "\\bstatic \\{", "while \\(true\\)", "for \\(;;"};
    private static final Due due = new Due();

    public static void main(String[] args) throws Exception {
        String source = Files.readString(Path.of("src/main/java/RiverLessons.java"));
        String code = source.replaceAll("(?s)/\\*.*?\\*/", " ").replaceAll("//[^\n]*", " ").replaceAll("\"[^\"\n]*\"", "\"\"");
        for (String word : FORBIDDEN) {
            Matcher found = Pattern.compile(word).matcher(code);
            due.holds("the class is without " + word, !found.find());
        }
        due.holds("every sign is plain", source.chars().allMatch(c -> c == '\n' || (c >= 32 && c < 127)));
        madeOutsideConstruction(code);
        shortMethods(source);
        due.end();
    }

    /** Calls make nothing, so that the room is never full: 'new' stands in initialisers and the constructor alone. */
    private static void madeOutsideConstruction(String code) {
        for (String line : code.split("\n")) {
            if (line.contains("new ")) {
                boolean initialiser = line.matches("\\s+final \\w+(\\[\\])* \\w+ = new .*;");
                boolean constructor = line.matches("        \\w+ = new \\w+\\(\\);");
                due.holds("made once: " + line.trim(), initialiser || constructor);
            }
        }
    }

    private static void shortMethods(String source) {
        String[] lines = source.split("\n");
        for (int i = 0; i < lines.length; i++) {
            if (lines[i].matches("\\s+(public |private |static )*[\\w\\[\\]]+ \\w+\\(.*\\) \\{") && !lines[i].matches("\\s+(else|return|new) .*")) {
                String end = lines[i].replaceAll("\\S.*", "") + "}";
                int length = 1;
                while (i + length < lines.length && !lines[i + length].equals(end)) {
                    length++;
                }
                due.holds("short: " + lines[i].trim() + " has " + length + " lines", length <= 60);
            }
        }
    }
}
