import java.lang.reflect.Constructor;
import java.lang.reflect.Field;
import java.lang.reflect.Method;
import java.lang.reflect.Modifier;
import java.util.Arrays;
import java.util.TreeSet;

/** The public face: the document's constructor and methods with their exceptions, and nothing else to be seen. */
public final class FaceTest {
    private static final Check CHECK = new Check("FaceTest");
    private static final String STATE = "IllegalStateException";
    private static final String ARGUMENT = "IllegalArgumentException";
    private static final String INDEX = "IndexOutOfBoundsException";
    private static final String POWER = "UnsupportedOperationException";

    public static void main(String[] args) {
        classAndConstructor();
        methods();
        nothingElseIsSeen();
        CHECK.end();
    }

    private static void classAndConstructor() {
        int modifiers = BlobStore.class.getModifiers();
        CHECK.due("public class", Modifier.isPublic(modifiers), true);
        CHECK.due("final class", Modifier.isFinal(modifiers), true);
        Constructor<?>[] all = BlobStore.class.getDeclaredConstructors();
        CHECK.due("constructors", all.length, 1);
        CHECK.due("constructor's parameters", all[0].getParameterCount(), 0);
        CHECK.due("public constructor", Modifier.isPublic(all[0].getModifiers()), true);
    }

    private static String text(String type, String name, String parameters, String... exceptions) {
        return type + " " + name + "(" + parameters + ") throws " + Arrays.toString(exceptions);
    }

    private static String text(Method method) {
        String parameters = String.join(", ", Arrays.stream(method.getParameterTypes()).map(Class::getName).toList());
        String[] exceptions =
                Arrays.stream(method.getExceptionTypes()).map(Class::getSimpleName).toArray(String[]::new);
        return text(method.getReturnType().getName(), method.getName(), parameters, exceptions);
    }

    private static void methods() {
        TreeSet<String> due = new TreeSet<>(Arrays.asList(
                text("int", "begin", "int, int", STATE, ARGUMENT, POWER),
                text("int", "part", "int, int, int, long, long, long", STATE, ARGUMENT, INDEX, POWER),
                text("int", "complete", "int", STATE, ARGUMENT, POWER),
                text("void", "abort", "int", STATE, ARGUMENT, POWER),
                text("boolean", "delete", "int", STATE, POWER),
                text("int", "collect", "", STATE, POWER),
                text("void", "cutAfter", "int", ARGUMENT),
                text("boolean", "recover", ""),
                text("int", "latest", "int, int"),
                text("int", "size", "int"),
                text("int", "byteAt", "int, int"),
                text("int", "address", "int, int", "NoSuchElementException"),
                text("int", "needed", "int"),
                text("int", "slotOf", "int, long"),
                text("int", "state", "int")));
        TreeSet<String> found = new TreeSet<>();
        TreeSet<String> names = new TreeSet<>();
        for (Method method : BlobStore.class.getDeclaredMethods()) {
            if (Modifier.isPublic(method.getModifiers())) {
                found.add(text(method));
                names.add(method.getName());
            }
        }
        if (!found.equals(due)) {
            CHECK.tell("the public methods are " + found + ", due are " + due);
        }
        for (Method method : BlobStore.class.getDeclaredMethods()) {
            boolean hidden = Modifier.isPrivate(method.getModifiers());
            if (hidden && names.contains(method.getName())) {
                CHECK.tell("a private method bears the name of a public one: " + method);
            }
            if (!hidden && !Modifier.isPublic(method.getModifiers())) {
                CHECK.tell("not of the face: " + method);
            }
        }
    }

    private static void nothingElseIsSeen() {
        for (Field field : BlobStore.class.getDeclaredFields()) {
            if (!Modifier.isPrivate(field.getModifiers())) {
                CHECK.tell("not of the face: " + field);
            }
        }
        for (Class<?> inside : BlobStore.class.getDeclaredClasses()) {
            int modifiers = inside.getModifiers();
            if (Modifier.isPublic(modifiers) || Modifier.isProtected(modifiers) || !Modifier.isStatic(modifiers)) {
                CHECK.tell("a class inside is not private or package-visible and static: " + inside);
            }
        }
    }
}
