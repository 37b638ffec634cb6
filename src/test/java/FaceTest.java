import java.lang.reflect.Constructor;
import java.lang.reflect.Field;
import java.lang.reflect.Method;
import java.lang.reflect.Modifier;
import java.util.Arrays;
import java.util.HashSet;
import java.util.Set;
import java.util.TreeSet;

/** The face of the document, and what can be seen of LANGUAGE.md from the compiled classes. */
public final class FaceTest {
    private static final String INDEX = "IndexOutOfBoundsException";
    private static final String ARGUMENT = "IllegalArgumentException";
    private static final String STATE = "IllegalStateException";
    private static final String UNSUPPORTED = "UnsupportedOperationException";

    private static final Check check = new Check("FaceTest");

    public static void main(String[] args) {
        check.sentence("The public face", "public final class ObjectLinks {");
        Class<?> face = ObjectLinks.class;
        check.holds("public and final", Modifier.isPublic(face.getModifiers()) && Modifier.isFinal(face.getModifiers()));
        check.holds("no package", face.getPackageName().isEmpty());
        methods(face);
        constructors(face);
        fields(face);
        classesInside(face);
        check.end();
    }

    private static void methods(Class<?> face) {
        Set<String> want = new TreeSet<>(Arrays.asList(
                "object 0 " + UNSUPPORTED,
                "section 4 " + INDEX + " " + ARGUMENT + " " + UNSUPPORTED,
                "bytes 4 " + INDEX + " " + ARGUMENT,
                "name 5 " + INDEX + " " + ARGUMENT + " " + UNSUPPORTED,
                "reference 6 " + INDEX + " " + ARGUMENT + " " + UNSUPPORTED,
                "choose 1 " + INDEX + " " + ARGUMENT,
                "link 2 " + ARGUMENT + " " + STATE + " " + UNSUPPORTED,
                "fault 1 " + INDEX,
                "image 1 " + INDEX,
                "placeOf 2 " + INDEX + " " + ARGUMENT,
                "nameAt 1",
                "write 1 " + INDEX,
                "written 1 " + INDEX,
                "alter 2 " + INDEX + " " + ARGUMENT,
                "read 1 " + ARGUMENT + " " + UNSUPPORTED,
                "count 1"));
        Set<String> got = new TreeSet<>();
        for (Method method : face.getDeclaredMethods()) {
            if (!Modifier.isPrivate(method.getModifiers())) {
                StringBuilder told = new StringBuilder(method.getName() + " " + method.getParameterCount());
                for (Class<?> thrown : method.getExceptionTypes()) {
                    told.append(' ').append(thrown.getSimpleName());
                }
                got.add(told.toString());
                check.holds(method + " is public and no more", method.getModifiers() == Modifier.PUBLIC);
                check.holds(method + " is of ints", method.getReturnType() == int.class
                        && Arrays.stream(method.getParameterTypes()).allMatch(type -> type == int.class));
            }
        }
        check.say("methods", want.toString(), got.toString());
    }

    private static void constructors(Class<?> face) {
        Constructor<?>[] all = face.getDeclaredConstructors();
        check.holds("one constructor", all.length == 1 && all[0].getParameterCount() == 0
                && Modifier.isPublic(all[0].getModifiers()));
    }

    private static void fields(Class<?> face) {
        for (Field field : face.getDeclaredFields()) {
            int modifiers = field.getModifiers();
            boolean isNone = field.getName().equals("NONE") && field.getType() == int.class
                    && modifiers == (Modifier.PUBLIC | Modifier.STATIC | Modifier.FINAL);
            check.holds(field + " is private or NONE", isNone || Modifier.isPrivate(modifiers));
            check.holds(field + " is final if static", !Modifier.isStatic(modifiers) || Modifier.isFinal(modifiers));
        }
    }

    private static void classesInside(Class<?> face) {
        Set<String> taken = new HashSet<>();
        for (Method method : face.getDeclaredMethods()) {
            if (Modifier.isPublic(method.getModifiers())) {
                check.holds(method + " has a name of its own", taken.add(method.getName()));
            }
        }
        methodsKeepTheRules(taken, face);
        check.holds("at most some twelve classes", face.getDeclaredClasses().length <= 12);
        for (Class<?> inside : face.getDeclaredClasses()) {
            int modifiers = inside.getModifiers();
            check.holds(inside + " is static, not public", Modifier.isStatic(modifiers)
                    && !Modifier.isPublic(modifiers) && !Modifier.isProtected(modifiers));
            methodsKeepTheRules(taken, inside);
            fieldsKeepTheRules(inside);
        }
    }

    private static void fieldsKeepTheRules(Class<?> inside) {
        int own = 0;
        for (Field field : inside.getDeclaredFields()) {
            boolean isStatic = Modifier.isStatic(field.getModifiers());
            own += isStatic ? 0 : 1;
            check.holds(field + " is final if static", !isStatic || Modifier.isFinal(field.getModifiers()));
        }
        check.holds(inside + " has at most some twenty fields", own <= 22);
    }

    private static void methodsKeepTheRules(Set<String> taken, Class<?> of) {
        for (Method method : of.getDeclaredMethods()) {
            boolean isPrivate = Modifier.isPrivate(method.getModifiers());
            check.holds(method + " bears no name of the face", !isPrivate || !taken.contains(method.getName()));
            check.holds(method + " has at most seven parameters", method.getParameterCount() <= 7);
        }
    }
}
