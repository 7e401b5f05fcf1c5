import java.lang.reflect.Field;
import java.lang.reflect.Method;
import java.lang.reflect.Modifier;
import java.util.Arrays;
import java.util.Set;
import java.util.TreeSet;

/** The class has the document's public face and no other member that can be seen from outside. */
public final class FaceTest {
    private static final Set<String> METHODS = new TreeSet<>(Arrays.asList(
            "boolean wall[int, int]",
            "boolean place[int, int, int, int]",
            "int input[int, int]",
            "boolean report[int]",
            "int tick[]",
            "int deliver[int]",
            "boolean lose[int]",
            "boolean copy[int]",
            "int flight[]",
            "int packet[int, int]",
            "int position[int]",
            "int view[int, int]",
            "int predicted[int]",
            "int count[int, int]"));

    public static void main(String[] args) {
        Checks checks = new Checks();
        checks.yes("the class is public", Modifier.isPublic(DeltaPlayfield.class.getModifiers()));
        checks.yes("the class is final", Modifier.isFinal(DeltaPlayfield.class.getModifiers()));
        checks.due("constructors", 1, DeltaPlayfield.class.getDeclaredConstructors().length);
        checks.due("public constructors", 1, DeltaPlayfield.class.getConstructors().length);
        checks.due("NONE", -1, DeltaPlayfield.NONE);
        methods(checks);
        fields(checks);
        nestedClasses(checks);
        checks.end();
    }

    private static void methods(Checks checks) {
        Set<String> seen = new TreeSet<>();
        Set<String> publicNames = new TreeSet<>();
        Set<String> privateNames = new TreeSet<>();
        for (Method method : DeltaPlayfield.class.getDeclaredMethods()) {
            int modifiers = method.getModifiers();
            if (Modifier.isPrivate(modifiers)) {
                privateNames.add(method.getName());
            } else {
                checks.yes(method + " is public", Modifier.isPublic(modifiers));
                checks.no(method + " is static", Modifier.isStatic(modifiers));
                publicNames.add(method.getName());
                seen.add(method.getReturnType() + " " + method.getName()
                        + Arrays.toString(method.getParameterTypes()));
            }
        }
        checks.yes("the methods are those of the document: " + seen, seen.equals(METHODS));
        privateNames.retainAll(publicNames);
        checks.yes("no private method is named like a public one: " + privateNames, privateNames.isEmpty());
    }

    private static void fields(Checks checks) {
        for (Field field : DeltaPlayfield.class.getDeclaredFields()) {
            int modifiers = field.getModifiers();
            if (Modifier.isStatic(modifiers)) {
                checks.yes(field + " is final", Modifier.isFinal(modifiers));
            }
            if (field.getName().equals("NONE")) {
                checks.yes("NONE is public", Modifier.isPublic(modifiers));
                checks.yes("NONE is static", Modifier.isStatic(modifiers));
                checks.yes("NONE is an int", field.getType() == int.class);
            } else {
                checks.yes(field + " is private", Modifier.isPrivate(modifiers));
            }
        }
    }

    private static void nestedClasses(Checks checks) {
        for (Class<?> nested : DeltaPlayfield.class.getDeclaredClasses()) {
            int modifiers = nested.getModifiers();
            checks.yes(nested + " is static", Modifier.isStatic(modifiers));
            checks.no(nested + " is public", Modifier.isPublic(modifiers));
            checks.no(nested + " is protected", Modifier.isProtected(modifiers));
        }
    }
}
