import java.lang.reflect.Constructor;
import java.lang.reflect.Field;
import java.lang.reflect.Method;
import java.lang.reflect.Modifier;
import java.util.Arrays;
import java.util.TreeSet;

/** The public face as the document has it, and the rules 1 and 5 of LANGUAGE.md that can be seen from outside. */
public final class FaceTest {
    private static final String ARGUMENT = " throws IllegalArgumentException";
    private static final String BOTH = ARGUMENT + " IllegalStateException";
    private static final String[] METHODS = {
        "void open(int)" + ARGUMENT, "int begin(int)" + BOTH, "int read(int, int)" + BOTH,
        "int write(int, int, int)" + BOTH, "int change(int, int, int, int)" + BOTH,
        "int count(int, int, int)" + BOTH, "int commit(int)" + BOTH, "void abort(int)" + BOTH,
        "int again(int)" + BOTH, "int deliver(int)" + ARGUMENT, "int drop(int)" + ARGUMENT,
        "boolean copy(int)" + ARGUMENT, "int byteOf(int, int)" + ARGUMENT, "void crash(int)" + BOTH,
        "void restart(int)" + BOTH, "int about(int, int)" + ARGUMENT, "int vector(int, int)" + ARGUMENT,
        "int value(int, int)" + ARGUMENT, "int locked(int, int)" + ARGUMENT, "int total(int)" + ARGUMENT,
    };

    private FaceTest() {
    }

    public static void main(String[] args) {
        theClass();
        theMethods();
        theFields();
        Due.end("FaceTest");
    }

    private static void theClass() {
        Due.due("public final", SnapSites.class.getModifiers(), Modifier.PUBLIC | Modifier.FINAL);
        Constructor<?>[] made = SnapSites.class.getDeclaredConstructors();
        Due.due("constructors", made.length, 1);
        Due.due("a public one without arguments", made[0].toString(), "public SnapSites()");
        for (Class<?> inside : SnapSites.class.getDeclaredClasses()) {
            int modifiers = inside.getModifiers();
            Due.due(inside + " is static", Modifier.isStatic(modifiers), true);
            Due.due(inside + " is public", Modifier.isPublic(modifiers) || Modifier.isProtected(modifiers), false);
        }
    }

    private static String shape(Method method) {
        String parameters = Arrays.toString(method.getParameterTypes());
        StringBuilder text = new StringBuilder(method.getReturnType() + " " + method.getName());
        text.append('(').append(parameters, 1, parameters.length() - 1).append(") throws");
        for (Class<?> thrown : method.getExceptionTypes()) {
            text.append(' ').append(thrown.getSimpleName());
        }
        return text.toString();
    }

    private static void theMethods() {
        TreeSet<String> shapes = new TreeSet<>();
        TreeSet<String> names = new TreeSet<>();
        for (Method method : SnapSites.class.getDeclaredMethods()) {
            if (Modifier.isPublic(method.getModifiers())) {
                Due.due(method + " is no static one", Modifier.isStatic(method.getModifiers()), false);
                shapes.add(shape(method));
                names.add(method.getName());
            }
        }
        Due.due("the methods", shapes.toString(), new TreeSet<>(Arrays.asList(METHODS)).toString());
        theOthersBearOtherNames(SnapSites.class, names);
        for (Class<?> inside : SnapSites.class.getDeclaredClasses()) {
            theOthersBearOtherNames(inside, names);
        }
    }

    private static void theOthersBearOtherNames(Class<?> type, TreeSet<String> names) {
        for (Method method : type.getDeclaredMethods()) {
            boolean ofTheFace = type == SnapSites.class && Modifier.isPublic(method.getModifiers());
            if (!ofTheFace) {
                Due.due(method + " bears a name of the face", names.contains(method.getName()), false);
            }
            if (type == SnapSites.class && !ofTheFace) {
                Due.due(method + " is private", Modifier.isPrivate(method.getModifiers()), true);
            }
        }
    }

    private static void theFields() {
        Due.due("NONE", SnapSites.NONE, -1);
        for (Field field : SnapSites.class.getDeclaredFields()) {
            boolean isConstant = field.getName().equals("NONE");
            Due.due(field + " is public", Modifier.isPublic(field.getModifiers()), isConstant);
            Due.due(field + " is private", Modifier.isPrivate(field.getModifiers()), !isConstant);
            if (Modifier.isStatic(field.getModifiers())) {
                Due.due(field + " is final", Modifier.isFinal(field.getModifiers()), true);
            }
        }
    }
}
