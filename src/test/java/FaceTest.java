import java.lang.reflect.Constructor;
import java.lang.reflect.Field;
import java.lang.reflect.Method;
import java.lang.reflect.Modifier;
import java.util.Arrays;
import java.util.HashSet;
import java.util.Set;
import java.util.TreeSet;
import java.util.stream.Collectors;

/** The face of the document, and what can be seen of LANGUAGE.md from the compiled classes. */
public final class FaceTest {
    private static final String[] METHODS = {
        "public int object() throws UnsupportedOperationException",
        "public int section(int object, int kind, int power, int length)"
                + " throws IndexOutOfBoundsException, IllegalArgumentException, UnsupportedOperationException",
        "public int bytes(int object, int section, int at, int v)"
                + " throws IndexOutOfBoundsException, IllegalArgumentException",
        "public int name(int object, int number, int sort, int section, int place)"
                + " throws IndexOutOfBoundsException, IllegalArgumentException, UnsupportedOperationException",
        "public int reference(int object, int section, int place, int way, int name, int addend)"
                + " throws IndexOutOfBoundsException, IllegalArgumentException, UnsupportedOperationException",
        "public int choose(int object) throws IndexOutOfBoundsException, IllegalArgumentException",
        "public int link(int entry, int base)"
                + " throws IllegalArgumentException, IllegalStateException, UnsupportedOperationException",
        "public int fault(int what) throws IndexOutOfBoundsException",
        "public int image(int i) throws IndexOutOfBoundsException",
        "public int placeOf(int object, int section) throws IndexOutOfBoundsException, IllegalArgumentException",
        "public int nameAt(int number)",
        "public int write(int object) throws IndexOutOfBoundsException",
        "public int written(int i) throws IndexOutOfBoundsException",
        "public int alter(int i, int v) throws IndexOutOfBoundsException, IllegalArgumentException",
        "public int read(int cut) throws IllegalArgumentException, UnsupportedOperationException",
        "public int count(int what)"
    };

    private static final Check check = new Check("FaceTest");

    public static void main(String[] args) {
        Class<?> face = ObjectLinks.class;
        fields(face);
        constructors(face);
        methods(face);
        check.sentence("The public face", "public final class ObjectLinks {");
        check.holds("public and final", Modifier.isPublic(face.getModifiers()) && Modifier.isFinal(face.getModifiers()));
        check.holds("no package", face.getPackageName().isEmpty());
        classesInside(face);
        check.end();
    }

    private static void methods(Class<?> face) {
        Set<String> got = new TreeSet<>();
        for (Method method : face.getDeclaredMethods()) {
            if (!Modifier.isPrivate(method.getModifiers())) {
                got.add(declared(method));
            }
        }
        for (String line : METHODS) {
            check.sentence("The public face", line + ";");
            check.holds("it is declared so", got.remove(withoutNames(line)));
        }
        check.say("other methods", "[]", got.toString());
    }

    private static String declared(Method method) {
        String types = joined(method.getParameterTypes());
        String thrown = joined(method.getExceptionTypes());
        return Modifier.toString(method.getModifiers()) + " " + method.getReturnType() + " " + method.getName()
                + "(" + types + ")" + (thrown.isEmpty() ? "" : " throws " + thrown);
    }

    private static String joined(Class<?>[] types) {
        return Arrays.stream(types).map(Class::getSimpleName).collect(Collectors.joining(", "));
    }

    /** The compiled class knows only the types of what its methods take. */
    private static String withoutNames(String line) {
        return line.replaceAll("int \\w+(?=[,)])", "int");
    }

    private static void constructors(Class<?> face) {
        check.sentence("The public face", "public ObjectLinks();");
        Constructor<?>[] all = face.getDeclaredConstructors();
        check.holds("one constructor", all.length == 1 && all[0].getParameterCount() == 0
                && Modifier.isPublic(all[0].getModifiers()));
    }

    private static void fields(Class<?> face) {
        check.sentence("The public face", "public static final int NONE = -1;");
        check.holds("NONE is -1", ObjectLinks.NONE == -1);
        for (Field field : face.getDeclaredFields()) {
            int modifiers = field.getModifiers();
            boolean isNone = field.getName().equals("NONE") && field.getType() == int.class
                    && modifiers == (Modifier.PUBLIC | Modifier.STATIC | Modifier.FINAL);
            check.holds(field + " is private or NONE", isNone || Modifier.isPrivate(modifiers));
            check.holds(field + " is final if static", !Modifier.isStatic(modifiers) || Modifier.isFinal(modifiers));
        }
    }

    private static void classesInside(Class<?> face) {
        Set<String> taken = new HashSet<>();
        for (Method method : face.getDeclaredMethods()) {
            if (Modifier.isPublic(method.getModifiers())) {
                check.holds(method + " has a name of its own", taken.add(method.getName()));
            }
        }
        methodsKeepTheRules(taken, face);
        check.holds("at most some twelve classes", face.getDeclaredClasses().length <= 12);
        for (Class<?> inside : face.getDeclaredClasses()) {
            int modifiers = inside.getModifiers();
            check.holds(inside + " is static, not public", Modifier.isStatic(modifiers)
                    && !Modifier.isPublic(modifiers) && !Modifier.isProtected(modifiers));
            methodsKeepTheRules(taken, inside);
            fieldsKeepTheRules(inside);
        }
    }

    private static void fieldsKeepTheRules(Class<?> inside) {
        int own = 0;
        for (Field field : inside.getDeclaredFields()) {
            boolean isStatic = Modifier.isStatic(field.getModifiers());
            own += isStatic ? 0 : 1;
            check.holds(field + " is final if static", !isStatic || Modifier.isFinal(field.getModifiers()));
        }
        check.holds(inside + " has at most some twenty fields", own <= 22);
    }

    private static void methodsKeepTheRules(Set<String> taken, Class<?> of) {
        for (Method method : of.getDeclaredMethods()) {
            boolean isPrivate = Modifier.isPrivate(method.getModifiers());
            check.holds(method + " bears no name of the face", !isPrivate || !taken.contains(method.getName()));
            check.holds(method + " has at most seven parameters", method.getParameterCount() <= 7);
        }
    }
}
