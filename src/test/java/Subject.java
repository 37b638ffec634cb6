import java.util.Arrays;

/** An ObjectLinks that is never asked more calls than the document promises answers for. */
final class Subject implements Face {
    static final int MOST_CALLS = 512;
    private static final int MOST_SEEN = 24;

    private static String latest = "";
    private static int[] latestArguments = {};

    private final ObjectLinks links = new ObjectLinks();
    private int calls;

    /** Of all subjects, for telling which answer was wrong. */
    static String latestCall() {
        String arguments = Arrays.toString(latestArguments);
        return latest + "(" + arguments.substring(1, arguments.length() - 1) + ")";
    }

    int callsLeft() {
        return MOST_CALLS - calls;
    }

    private ObjectLinks asked(String call, int... arguments) {
        calls++;
        if (calls > MOST_CALLS) {
            throw new AssertionError("the test itself is wrong: it asks more than " + MOST_CALLS + " calls");
        }
        latest = call;
        latestArguments = arguments;
        return links;
    }

    @Override
    public int object() {
        return asked("object").object();
    }

    @Override
    public int section(int object, int kind, int power, int length) {
        return asked("section", object, kind, power, length).section(object, kind, power, length);
    }

    @Override
    public int bytes(int object, int section, int at, int v) {
        return asked("bytes", object, section, at, v).bytes(object, section, at, v);
    }

    @Override
    public int name(int object, int number, int sort, int section, int place) {
        return asked("name", object, number, sort, section, place).name(object, number, sort, section, place);
    }

    @Override
    public int reference(int object, int section, int place, int way, int name, int addend) {
        return asked("reference", object, section, place, way, name, addend)
                .reference(object, section, place, way, name, addend);
    }

    @Override
    public int choose(int object) {
        return asked("choose", object).choose(object);
    }

    @Override
    public int link(int entry, int base) {
        return asked("link", entry, base).link(entry, base);
    }

    @Override
    public int fault(int what) {
        return asked("fault", what).fault(what);
    }

    @Override
    public int image(int i) {
        return asked("image", i).image(i);
    }

    @Override
    public int placeOf(int object, int section) {
        return asked("placeOf", object, section).placeOf(object, section);
    }

    @Override
    public int nameAt(int number) {
        return asked("nameAt", number).nameAt(number);
    }

    @Override
    public int write(int object) {
        return asked("write", object).write(object);
    }

    @Override
    public int written(int i) {
        return asked("written", i).written(i);
    }

    @Override
    public int alter(int i, int v) {
        return asked("alter", i, v).alter(i, v);
    }

    @Override
    public int read(int cut) {
        return asked("read", cut).read(cut);
    }

    @Override
    public int count(int what) {
        return asked("count", what).count(what);
    }

    /** All that calls can tell of it, but for bytes far behind; the last part writes each object anew. */
    String look(int... names) {
        StringBuilder seen = new StringBuilder("counts");
        for (int what = 0; what <= 9; what++) {
            seen.append(' ').append(count(what));
        }
        seen.append(", fault ").append(fault(0)).append(' ').append(fault(1)).append(' ').append(fault(2));
        seen.append(", image");
        for (int i = 0; i < Math.min(MOST_SEEN, count(2)); i++) {
            seen.append(' ').append(image(i));
        }
        seen.append(", names at");
        for (int number : names) {
            seen.append(' ').append(nameAt(number));
        }
        lookAtWritten(seen.append(", written"));
        for (int object = 0; object < count(0); object++) {
            write(object);
            lookAtPlaces(seen.append(", object ").append(object).append(" at"), object);
            lookAtWritten(seen.append(" written"));
        }
        return seen.toString();
    }

    private void lookAtPlaces(StringBuilder seen, int object) {
        int sections = written(2);
        for (int section = 0; section < sections; section++) {
            seen.append(' ').append(placeOf(object, section));
        }
    }

    /** The sum at the end tells of the bytes between. */
    private void lookAtWritten(StringBuilder seen) {
        int length = count(6);
        for (int i = 0; i < length; i++) {
            if (i < MOST_SEEN || i >= length - 2) {
                seen.append(' ').append(written(i));
            }
        }
    }

    void chooseAll(int... objects) {
        for (int object : objects) {
            choose(object);
        }
    }
}
