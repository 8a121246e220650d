import java.lang.reflect.Constructor;
import java.lang.reflect.Field;
import java.lang.reflect.Method;
import java.lang.reflect.Modifier;
import java.util.Arrays;
import java.util.Map;
import java.util.TreeMap;
import java.util.stream.Collectors;

/** The public face, as the document prints it, and nothing beside it. */
public final class FaceTest {
    private static final String[] FACE = {
        "int schema() S",
        "int add(int, int, int, int, boolean) BAS",
        "int rename(int, int, int) BAS",
        "int turn(int, int, int) BAS",
        "int split(int, int, int, int, int) BAS",
        "int join(int, int, int, int, int) BAS",
        "boolean toggleNeed(int, int) BS",
        "boolean drop(int, int) BS",
        "int head(int) B",
        "int field(int, int, int) BA",
        "char text(int, int, int) B",
        "int form(int) BS",
        "int take(int, int, boolean) BS",
        "int letGo(int, int) B",
        "int retire(int) BS",
        "int renew(int) BS",
        "int read(int, int, int) BA",
        "int write(int, int, int, int) BAS",
        "int row(int, int) BS",
        "int set(int, int, int) BA",
        "int value(int, int, int) B",
        "int replayed(int, int) B",
        "int standing(int) B",
        "int mover(int, int) BS",
        "int step(int) BS",
        "int undo(int) BS",
    };

    private static String told(Method method) {
        Map<String, String> letters = Map.of("IndexOutOfBoundsException", "B",
            "IllegalArgumentException", "A", "IllegalStateException", "S");
        return Arrays.stream(method.getParameterTypes()).map(Class::getSimpleName)
            .collect(Collectors.joining(", ", method.getReturnType().getSimpleName() + " " + method.getName() + "(", ") "))
            + Arrays.stream(method.getExceptionTypes()).map(type -> letters.get(type.getSimpleName()))
            .collect(Collectors.joining());
    }

    public static void main(String[] args) {
        Checks checks = new Checks();
        TreeMap<String, Boolean> open = new TreeMap<>();
        for (Method method : FieldMigrator.class.getDeclaredMethods()) {
            if (!Modifier.isPrivate(method.getModifiers()) && !method.isSynthetic()) {
                open.put(told(method), Modifier.isPublic(method.getModifiers()) && !Modifier.isStatic(method.getModifiers()));
            }
        }
        for (String method : FACE) {
            checks.same(method, String.valueOf(open.remove(method)), "true");
        }
        checks.same("other methods", open.keySet().toString(), "[]");
        for (Field field : FieldMigrator.class.getDeclaredFields()) {
            boolean isHidden = Modifier.isPrivate(field.getModifiers()) || field.isSynthetic();
            boolean isFixed = !Modifier.isStatic(field.getModifiers()) || Modifier.isFinal(field.getModifiers());
            checks.same(field.getName() + " is private, and final if it is static", isHidden + " " + isFixed, "true true");
        }
        Constructor<?>[] constructors = FieldMigrator.class.getDeclaredConstructors();
        checks.same("constructors", constructors.length + " " + constructors[0].getParameterCount() + " "
            + Modifier.isPublic(constructors[0].getModifiers()), "1 0 true");
        int modifiers = FieldMigrator.class.getModifiers();
        checks.same("class", Modifier.isPublic(modifiers) + " " + Modifier.isFinal(modifiers) + " "
            + FieldMigrator.class.getPackageName(), "true true ");
        checks.end();
    }
}
