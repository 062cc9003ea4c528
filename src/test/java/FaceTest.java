import java.lang.reflect.Constructor;
import java.lang.reflect.Field;
import java.lang.reflect.Method;
import java.lang.reflect.Modifier;
import java.util.Set;
import java.util.TreeSet;

/** The public face: the document's members and no other, and what LANGUAGE.md says of classes and fields. */
public final class FaceTest {
    private static final Set<String> METHODS = Set.of(
        "int feed(int, int, int, int, int)", "int text(int)", "int fault(int)", "boolean entry(int)",
        "boolean outer(int, int)", "int mark(int, int, int)", "int use(int, int)", "int test(int, int)",
        "int run(int, int)", "int ran(int)", "int tries(int)", "boolean price(int, int)", "int mend()",
        "int mended(int)", "int count(int)");

    private static int wrong;

    public static void main(String[] args) throws IllegalAccessException {
        Class<?> face = NothingJudge.class;
        check("the class is public and final, and has no class above it", Modifier.isPublic(face.getModifiers())
            && Modifier.isFinal(face.getModifiers()) && face.getSuperclass() == Object.class
            && face.getInterfaces().length == 0);
        methods(face);
        constructors(face);
        fields(face);
        inside(face);
        System.out.println(wrong == 0 ? "the face is the document's" : wrong + " faults of the face");
        System.exit(wrong == 0 ? 0 : 1);
    }

    private static void check(String what, boolean holds) {
        if (!holds) {
            wrong++;
            System.out.println("does not hold: " + what);
        }
    }

    private static void methods(Class<?> face) {
        Set<String> found = new TreeSet<>();
        for (Method method : face.getDeclaredMethods()) {
            if (Modifier.isPublic(method.getModifiers())) {
                StringBuilder words = new StringBuilder(method.getReturnType() + " " + method.getName() + "(");
                for (Class<?> parameter : method.getParameterTypes()) {
                    words.append(words.toString().endsWith("(") ? "" : ", ").append(parameter);
                }
                found.add(words.append(")").toString());
                check(method + " is no static one", !Modifier.isStatic(method.getModifiers()));
                check(method + " throws nothing", method.getExceptionTypes().length == 0);
            } else {
                check(method + " is private", Modifier.isPrivate(method.getModifiers()));
            }
        }
        check("the public methods are those of the document: " + found, found.equals(METHODS));
    }

    private static void constructors(Class<?> face) {
        Constructor<?>[] found = face.getDeclaredConstructors();
        check("there is one constructor", found.length == 1);
        check("it is public, without parameters", Modifier.isPublic(found[0].getModifiers())
            && found[0].getParameterCount() == 0);
    }

    private static void fields(Class<?> face) throws IllegalAccessException {
        for (Field field : face.getDeclaredFields()) {
            int modifiers = field.getModifiers();
            if (field.getName().equals("NONE")) {
                check("NONE is a public constant", Modifier.isPublic(modifiers) && Modifier.isStatic(modifiers)
                    && Modifier.isFinal(modifiers) && field.getType() == int.class);
                check("NONE is -1", field.getInt(null) == -1);
            } else {
                check(field + " is private", Modifier.isPrivate(modifiers));
            }
        }
    }

    private static void inside(Class<?> face) {
        Class<?>[] classes = face.getDeclaredClasses();
        check("some twelve classes at most", classes.length + 1 <= 12);
        room(face);
        for (Class<?> inner : classes) {
            int modifiers = inner.getModifiers();
            check(inner + " is static, and not public", Modifier.isStatic(modifiers) && !Modifier.isPublic(modifiers)
                && !Modifier.isProtected(modifiers));
            room(inner);
        }
    }

    private static void room(Class<?> one) {
        int own = 0;
        for (Field field : one.getDeclaredFields()) {
            boolean isStatic = Modifier.isStatic(field.getModifiers());
            own += isStatic ? 0 : 1;
            check(field + " is final if static", !isStatic || Modifier.isFinal(field.getModifiers()));
        }
        check(one + " has some twenty fields at most", own <= 20);
    }
}
