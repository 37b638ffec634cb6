import java.io.IOException;
import java.lang.reflect.InvocationTargetException;
import java.lang.reflect.Method;
import java.lang.reflect.Modifier;
import java.net.URL;
import java.net.URLClassLoader;
import java.nio.file.Files;
import java.nio.file.Path;
import java.util.ArrayList;
import java.util.Arrays;
import java.util.List;
import java.util.Set;
import java.util.TreeSet;
import javax.tools.JavaCompiler;
import javax.tools.ToolProvider;

/** README.md: its examples are Java and answer as it says, and its list of calls is the document's face. */
public final class ReadmeTest {
    private static final Check check = new Check("ReadmeTest");

    public static void main(String[] args) throws IOException, ReflectiveOperationException {
        Readme readme = new Readme(Path.of(System.getProperty("readme", "README.md")));
        examplesAnswer(readme);
        examplesShowAll(readme);
        callsAreTheFace(readme);
        check.end();
    }

    private static void examplesAnswer(Readme readme) throws IOException, ReflectiveOperationException {
        check.say("example lines without an answer", "[]", readme.unclear.toString());
        Path home = Files.createTempDirectory("readme");
        try {
            compile(home, sourceOf(readme));
            try (URLClassLoader loader = new URLClassLoader(new URL[] {home.toUri().toURL()})) {
                Class<?> made = loader.loadClass("ReadmeExamples");
                for (int i = 0; i < readme.examples.size(); i++) {
                    compare(readme.examples.get(i), answersOf(made.getMethod("example" + i, List.class)));
                }
            }
        } finally {
            Files.deleteIfExists(home.resolve("ReadmeExamples.class"));
            Files.deleteIfExists(home.resolve("ReadmeExamples.java"));
            Files.delete(home);
        }
    }

    /** An example is taken as it stands; only its calls are asked for what they answer. */
    private static String sourceOf(Readme readme) {
        StringBuilder source = new StringBuilder("public final class ReadmeExamples {\n");
        for (int i = 0; i < readme.examples.size(); i++) {
            source.append("public static void example").append(i).append("(java.util.List<String> got) {\n");
            for (Readme.Shown shown : readme.examples.get(i)) {
                source.append(asked(shown)).append('\n');
            }
            source.append("}\n");
        }
        return source.append("}\n").toString();
    }

    private static String asked(Readme.Shown shown) {
        String code = shown.code();
        if (!shown.isCall()) {
            return code;
        }
        if (shown.thrown()) {
            return "try { " + code + " got.add(\"no exception\"); }"
                    + " catch (RuntimeException e) { got.add(e.getClass().getSimpleName()); }";
        }
        if (code.startsWith("int ")) {
            return code + " got.add(String.valueOf(" + code.substring(4, code.indexOf(" =")) + "));";
        }
        return "got.add(String.valueOf(" + code.substring(0, code.length() - 1) + "));";
    }

    private static void compile(Path home, String source) throws IOException {
        Path file = Files.writeString(home.resolve("ReadmeExamples.java"), source);
        JavaCompiler compiler = ToolProvider.getSystemJavaCompiler();
        int code = compiler.run(null, null, null, "--release", "17", "-d", home.toString(),
                "-cp", System.getProperty("java.class.path"), file.toString());
        check.say("the examples compile", "0", String.valueOf(code));
    }

    private static List<String> answersOf(Method example) throws IllegalAccessException {
        List<String> got = new ArrayList<>();
        try {
            example.invoke(null, got);
        } catch (InvocationTargetException e) {
            got.add(e.getCause().getClass().getSimpleName());
        }
        return got;
    }

    private static void compare(List<Readme.Shown> example, List<String> got) {
        int at = 0;
        for (Readme.Shown shown : example) {
            if (shown.isCall()) {
                String answer = at < got.size() ? got.get(at) : "nothing, it was not come to";
                check.say("README.md, line " + shown.line() + ": " + shown.code(), shown.want(), answer);
                at++;
            }
        }
        check.holds("an example has calls, no more than the document allows", at > 0 && at <= Subject.MOST_CALLS);
    }

    private static void examplesShowAll(Readme readme) {
        Set<String> called = new TreeSet<>();
        Set<String> thrown = new TreeSet<>();
        Set<String> promised = new TreeSet<>();
        for (List<Readme.Shown> example : readme.examples) {
            for (Readme.Shown shown : example) {
                if (shown.isCall()) {
                    called.add(shown.code().replaceFirst(".*x\\.(\\w+)\\(.*", "$1"));
                }
                if (shown.thrown()) {
                    thrown.add(shown.want());
                }
            }
        }
        for (Method method : face()) {
            promised.addAll(exceptionsOf(method));
        }
        check.say("calls in examples", names().toString(), called.toString());
        check.say("exceptions in examples", promised.toString(), thrown.toString());
    }

    private static void callsAreTheFace(Readme readme) {
        Set<String> listed = new TreeSet<>();
        for (Readme.Told told : readme.calls) {
            check.sentence("The public face", "public " + told.signature());
            check.holds("it is listed once", listed.add(told.name()));
            for (Method method : face()) {
                if (method.getName().equals(told.name())) {
                    check.say("its exceptions, in order", exceptionsOf(method).toString(), told.exceptions().toString());
                }
            }
        }
        check.say("calls that are listed", names().toString(), listed.toString());
    }

    private static List<Method> face() {
        return Arrays.stream(ObjectLinks.class.getDeclaredMethods())
                .filter(method -> Modifier.isPublic(method.getModifiers())).toList();
    }

    private static Set<String> names() {
        Set<String> names = new TreeSet<>();
        for (Method method : face()) {
            names.add(method.getName());
        }
        return names;
    }

    private static List<String> exceptionsOf(Method method) {
        return Arrays.stream(method.getExceptionTypes()).map(Class::getSimpleName).toList();
    }
}
