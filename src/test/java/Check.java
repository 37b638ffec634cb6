/** Counts answers that are not as due, for the tests of the project. */
final class Check {
    /** One call of the face; what it throws is looked at, too. */
    interface Call {
        int answer();
    }

    private int wrong;
    private int asked;
    private final String title;

    Check(String title) {
        this.title = title;
    }

    void due(String call, int want, Call made) {
        say(call, String.valueOf(want), outcome(made));
    }

    /** The very class is asked for: what the machine throws is often a class below it. */
    void thrown(String call, Class<? extends RuntimeException> want, Call made) {
        say(call, want.getName(), outcome(made));
    }

    void holds(String what, boolean so) {
        say(what, "true", String.valueOf(so));
    }

    void say(String call, String want, String got) {
        asked++;
        if (!want.equals(got)) {
            wrong++;
            if (wrong <= 40) {
                System.out.println(title + ": " + call + " answered " + got + ", due is " + want);
            }
        }
    }

    static String outcome(Call made) {
        try {
            return String.valueOf(made.answer());
        } catch (RuntimeException e) {
            return e.getClass().getName();
        }
    }

    void end() {
        System.out.println(title + ": " + asked + " asked, " + wrong + " wrong");
        if (wrong != 0) {
            System.exit(1);
        }
    }
}
