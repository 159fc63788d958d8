import java.lang.reflect.Constructor;
import java.lang.reflect.Field;
import java.lang.reflect.Method;
import java.lang.reflect.Modifier;
import java.util.Arrays;
import java.util.Set;
import java.util.TreeSet;

/** The class shows the document's face and nothing else. */
public final class FaceTest {
    private static final String[] METHODS = {
        "int letter(int)", "int blank()", "int fault()", "int river()", "int reach(int, int)", "int as(int, int)",
        "int governess(int)", "int send(int, int)", "int month()", "int rain(int, int)", "int make(int, int)",
        "int spoil(int, int)", "int plan(int, int, int)", "int place(int)", "int weirs(int)", "int odds(int, int)",
        "int see(int, int, boolean)", "int forget()", "int years(int, int, int)", "int image()", "int restore()",
        "int count(int)", "long digest()"};
    private static final Set<String> CONSTANTS = new TreeSet<>(Arrays.asList("NONE", "UNKNOWN", "OUTSIDE", "STATE", "FULL"));
    private static final Due due = new Due();

    public static void main(String[] args) {
        Class<?> face = RiverLessons.class;
        due.holds("public and final", Modifier.isPublic(face.getModifiers()) && Modifier.isFinal(face.getModifiers()));
        methods(face);
        fields(face);
        constructors(face);
        nested(face);
        due.is("NONE", RiverLessons.NONE, -1);
        due.is("UNKNOWN", RiverLessons.UNKNOWN, -101);
        due.is("OUTSIDE", RiverLessons.OUTSIDE, -102);
        due.is("STATE", RiverLessons.STATE, -103);
        due.is("FULL", RiverLessons.FULL, -104);
        due.end();
    }

    private static String signature(Method method) {
        StringBuilder text = new StringBuilder(method.getReturnType().getName() + " " + method.getName() + "(");
        for (Class<?> type : method.getParameterTypes()) {
            text.append(text.charAt(text.length() - 1) == '(' ? "" : ", ").append(type.getName());
        }
        return text.append(')').toString();
    }

    private static void methods(Class<?> face) {
        Set<String> due1 = new TreeSet<>(Arrays.asList(METHODS)), shown = new TreeSet<>(), names = new TreeSet<>();
        for (Method method : face.getDeclaredMethods()) {
            if (Modifier.isPublic(method.getModifiers())) {
                shown.add(signature(method));
                names.add(method.getName());
            }
        }
        due.holds("public methods are " + shown, shown.equals(due1));
        for (Method method : face.getDeclaredMethods()) {
            boolean isPrivate = Modifier.isPrivate(method.getModifiers());
            due.holds(method + " is public or private", isPrivate || Modifier.isPublic(method.getModifiers()));
            due.holds(method + " has a name of its own", !isPrivate || !names.contains(method.getName()));
        }
        for (Class<?> inside : face.getDeclaredClasses()) {
            for (Method method : inside.getDeclaredMethods()) {
                due.holds(method + " has a name of its own", !names.contains(method.getName()));
                due.holds(method + " takes at most seven", method.getParameterCount() <= 7);
            }
        }
    }

    private static void fields(Class<?> face) {
        Set<String> shown = new TreeSet<>();
        int own = 0;
        for (Field field : face.getDeclaredFields()) {
            int is = field.getModifiers();
            if (Modifier.isPublic(is)) {
                shown.add(field.getName());
                due.holds(field + " is a constant", Modifier.isStatic(is) && Modifier.isFinal(is) && field.getType() == int.class);
            } else {
                due.holds(field + " is private", Modifier.isPrivate(is));
                due.holds(field + " is no static state", !Modifier.isStatic(is) || Modifier.isFinal(is));
            }
            own += Modifier.isStatic(is) ? 0 : 1;
        }
        due.holds("public fields are " + shown, shown.equals(CONSTANTS));
        due.holds("fields are few", own <= 20);
    }

    private static void constructors(Class<?> face) {
        Constructor<?>[] all = face.getDeclaredConstructors();
        due.is("constructors", all.length, 1);
        due.holds("it is public and takes nothing", Modifier.isPublic(all[0].getModifiers()) && all[0].getParameterCount() == 0);
    }

    private static void nested(Class<?> face) {
        due.holds("classes are few", face.getDeclaredClasses().length < 12);
        for (Class<?> inside : face.getDeclaredClasses()) {
            due.holds(inside + " is static", Modifier.isStatic(inside.getModifiers()));
            due.holds(inside + " is not shown", !Modifier.isPublic(inside.getModifiers()) && !Modifier.isProtected(inside.getModifiers()));
        }
    }
}
