import java.util.function.Consumer;
import java.util.function.Supplier;

/** Counts answers that are not as due, for the tests of the project. */
final class Check {
    /** One call of the face; what it throws is looked at, too. */
    interface Call {
        int answer();
    }

    private static final int MOST_TOLD = 40;

    private final String title;
    private final Document document = Document.orNull();
    private String sentence = "";
    private int askedHere = 1;
    private int asked;
    private int wrong;

    Check(String title) {
        this.title = title;
    }

    /** What is asked from here on would be wrong if this sentence of the document were broken. */
    void sentence(String part, String words) {
        needsQuestions();
        sentence = part + " '" + words + "': ";
        askedHere = 0;
        if (document != null && !document.says(part, words)) {
            tellWrong("the document does not say so");
        }
    }

    void due(int want, Call made) {
        String got = outcome(made);
        say(Subject.latestCall(), String.valueOf(want), got);
    }

    void index(Call... made) {
        refuses(IndexOutOfBoundsException.class, made);
    }

    void argument(Call... made) {
        refuses(IllegalArgumentException.class, made);
    }

    void state(Call... made) {
        refuses(IllegalStateException.class, made);
    }

    void unsupported(Call... made) {
        refuses(UnsupportedOperationException.class, made);
    }

    /** The very class is asked for: what the machine throws is often a class below it. */
    private void refuses(Class<? extends RuntimeException> want, Call... made) {
        for (Call one : made) {
            String got = outcome(one);
            say(Subject.latestCall(), want.getName(), got);
        }
    }

    void holds(String what, boolean so) {
        say(what, "true", String.valueOf(so));
    }

    /** count(from), count(from + 1) and so on. */
    void counts(Subject x, int from, int... want) {
        for (int i = 0; i < want.length; i++) {
            int what = from + i;
            due(want[i], () -> x.count(what));
        }
    }

    void fault(Subject x, int sort, int object, int number) {
        due(sort, () -> x.fault(0));
        due(object, () -> x.fault(1));
        due(number, () -> x.fault(2));
    }

    void image(Subject x, int from, int... want) {
        for (int i = 0; i < want.length; i++) {
            int at = from + i;
            due(want[i], () -> x.image(at));
        }
    }

    void written(Subject x, int from, int... want) {
        for (int i = 0; i < want.length; i++) {
            int at = from + i;
            due(want[i], () -> x.written(at));
        }
    }

    /** All bytes that were written last, and that there are no more. */
    void allWritten(Subject x, int... want) {
        due(want.length, () -> x.count(6));
        written(x, 0, want);
        index(() -> x.written(want.length));
    }

    /** Refused calls leave an object just like its twin that never saw them. */
    void changesNothing(Supplier<Subject> scene, Consumer<Subject> refused, int... names) {
        Subject tried = scene.get();
        refused.accept(tried);
        say("all that can be seen behind refused calls", scene.get().look(names), tried.look(names));
    }

    void say(String call, String want, String got) {
        asked++;
        askedHere++;
        if (!want.equals(got)) {
            tellWrong(call + " answered " + got + ", due is " + want);
        }
    }

    private void tellWrong(String what) {
        wrong++;
        if (wrong <= MOST_TOLD) {
            System.out.println(title + ": " + sentence + what);
        }
    }

    private void needsQuestions() {
        if (askedHere == 0) {
            tellWrong("nothing is asked");
        }
    }

    static String outcome(Call made) {
        try {
            return String.valueOf(made.answer());
        } catch (RuntimeException e) {
            return e.getClass().getName();
        }
    }

    void end() {
        needsQuestions();
        System.out.println(title + ": " + asked + " asked, " + wrong + " wrong");
        if (wrong != 0) {
            System.exit(1);
        }
    }
}
