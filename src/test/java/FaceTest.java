import java.lang.reflect.Constructor;
import java.lang.reflect.Field;
import java.lang.reflect.Method;
import java.lang.reflect.Modifier;
import java.util.Set;
import java.util.TreeSet;

/** The public face as the document has it, and nothing beside it (LANGUAGE.md, rule 1). */
public final class FaceTest {
    private static final String[] METHODS = {
        "teller int int", "hearer int", "of int int", "at int int", "heard int int", "type int", "list", "count int",
        "evenings int", "rest int int", "spin int int", "step int", "turn int", "drift int", "undo", "seed int",
        "ahead int int int", "then int int int", "first int", "all", "left int int", "pace int int", "seating int int",
        "needs int int", "spare int", "doze int int int", "image", "restore", "borne int int int int int int int",
        "film int int int int int", "sheet int int int", "drop int", "item int int int long", "copy int int int int int"};
    private static final String[] CONSTANTS = {
        "BAD -1", "NOT -2", "FULL -3", "NONE -4", "NULL -11", "CAST -12", "INDEX -13", "SIZE -14"};

    private static final Check check = new Check("FaceTest");

    public static void main(String[] args) throws IllegalAccessException {
        Class<?> face = DullEvenings.class;
        check.due("public and final", face.getModifiers() & (Modifier.PUBLIC | Modifier.FINAL),
            Modifier.PUBLIC | Modifier.FINAL);
        constructors(face);
        fields(face);
        methods(face);
        nestedClasses(face);
        check.end();
    }

    private static void constructors(Class<?> face) {
        Constructor<?>[] all = face.getDeclaredConstructors();
        check.due("constructors", all.length, 1);
        check.due("its parameters", all[0].getParameterCount(), 0);
        check.due("it is public", all[0].getModifiers(), Modifier.PUBLIC);
    }

    private static void fields(Class<?> face) throws IllegalAccessException {
        Set<String> seen = new TreeSet<>();
        for (Field field : face.getDeclaredFields()) {
            if (Modifier.isPublic(field.getModifiers())) {
                seen.add(field.getName() + " " + field.getInt(null));
            } else {
                check.due("private " + field.getName(), field.getModifiers() & Modifier.PRIVATE, Modifier.PRIVATE);
            }
        }
        same("constants", seen, new TreeSet<>(Set.of(CONSTANTS)));
    }

    private static void methods(Class<?> face) {
        Set<String> seen = new TreeSet<>();
        Set<String> names = new TreeSet<>();
        for (Method method : face.getDeclaredMethods()) {
            if (Modifier.isPublic(method.getModifiers())) {
                seen.add(signature(method));
                names.add(method.getName());
                check.due(method.getName() + " answers an int", method.getReturnType() == int.class ? 1 : 0, 1);
            }
        }
        same("methods", seen, new TreeSet<>(Set.of(METHODS)));
        for (Method method : face.getDeclaredMethods()) {
            if (!Modifier.isPublic(method.getModifiers())) {
                check.due("private " + method.getName(), method.getModifiers() & Modifier.PRIVATE, Modifier.PRIVATE);
                check.due("a face's name " + method.getName(), names.contains(method.getName()) ? 1 : 0, 0);
            }
        }
        for (Class<?> nested : face.getDeclaredClasses()) {
            for (Method method : nested.getDeclaredMethods()) {
                check.due("a face's name " + method.getName(), names.contains(method.getName()) ? 1 : 0, 0);
            }
        }
    }

    private static void nestedClasses(Class<?> face) {
        for (Class<?> nested : face.getDeclaredClasses()) {
            check.due("static " + nested.getName(), nested.getModifiers() & Modifier.STATIC, Modifier.STATIC);
            check.due("not public " + nested.getName(),
                nested.getModifiers() & (Modifier.PUBLIC | Modifier.PROTECTED), 0);
        }
    }

    private static String signature(Method method) {
        StringBuilder text = new StringBuilder(method.getName());
        for (Class<?> type : method.getParameterTypes()) {
            text.append(' ').append(type.getName());
        }
        return text.toString();
    }

    private static void same(String what, Set<String> seen, Set<String> wanted) {
        Set<String> more = new TreeSet<>(seen);
        more.removeAll(wanted);
        Set<String> missing = new TreeSet<>(wanted);
        missing.removeAll(seen);
        check.due(what + " too many " + more, more.size(), 0);
        check.due(what + " missing " + missing, missing.size(), 0);
    }
}
