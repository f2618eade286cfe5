import java.lang.reflect.Constructor;
import java.lang.reflect.Field;
import java.lang.reflect.Method;
import java.lang.reflect.Modifier;
import java.util.Arrays;
import java.util.TreeSet;

/** The face of the document as it stands there, and no other member that can be seen. */
public final class FaceTest {
    private static final Check check = new Check();
    private static final String[] FACE = {
        "boolean join(int, int, int)", "boolean leave(int, int, int)", "boolean mark(int, int, int)",
        "boolean thing(int, int, int)", "boolean isIn(int, int, int)", "int put(long, int)", "int wipe()",
        "int add(int)", "int drop(int, int)", "int size(int)", "int policy(int, int, int)",
        "int ask(int, int, int)", "int allows(int, int)", "int compare(int)", "int needless(int, int)",
    };

    public static void main(String[] args) {
        check.same("NONE", PermitSets.NONE, -1);
        check.same("BAD", PermitSets.BAD, -2);
        check.same("FULL", PermitSets.FULL, -3);
        check.yes("public", Modifier.isPublic(PermitSets.class.getModifiers()));
        check.yes("final", Modifier.isFinal(PermitSets.class.getModifiers()));
        methods();
        constructors();
        fields();
        check.end();
    }

    private static void methods() {
        TreeSet<String> seen = new TreeSet<>();
        TreeSet<String> names = new TreeSet<>();
        for (String method : FACE) {
            names.add(method.replaceAll(".* (\\w+)\\(.*", "$1"));
        }
        for (Method method : PermitSets.class.getDeclaredMethods()) {
            if (Modifier.isPrivate(method.getModifiers())) {
                check.no("a private " + method.getName(), names.contains(method.getName()));
            } else {
                seen.add(told(method));
            }
        }
        check.yes("the methods are " + seen, seen.equals(new TreeSet<>(Arrays.asList(FACE))));
    }

    private static String told(Method method) {
        StringBuilder types = new StringBuilder();
        for (Class<?> type : method.getParameterTypes()) {
            types.append(types.length() == 0 ? "" : ", ").append(type.getSimpleName());
        }
        String scope = Modifier.toString(method.getModifiers()).replace("public", "");
        return scope + method.getReturnType().getSimpleName() + " " + method.getName() + "(" + types + ")";
    }

    private static void constructors() {
        Constructor<?>[] all = PermitSets.class.getDeclaredConstructors();
        check.same("constructors", all.length, 1);
        check.same("its parameters", all[0].getParameterCount(), 0);
        check.yes("it is public", Modifier.isPublic(all[0].getModifiers()));
    }

    private static void fields() {
        TreeSet<String> seen = new TreeSet<>();
        for (Field field : PermitSets.class.getDeclaredFields()) {
            if (!Modifier.isPrivate(field.getModifiers())) {
                seen.add(field.getName());
            }
            if (Modifier.isStatic(field.getModifiers())) {
                check.yes("final " + field.getName(), Modifier.isFinal(field.getModifiers()));
            }
        }
        check.yes("the constants are " + seen, seen.toString().equals("[BAD, FULL, NONE]"));
    }
}
