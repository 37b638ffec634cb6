import java.util.function.Consumer;

/** What 'Terms' says of how many there may be, and of which exception comes first, sentence by sentence. */
public final class TermsTest {
    private static final Check check = new Check("TermsTest");

    public static void main(String[] args) {
        calls();
        none();
        objects();
        sections();
        kinds();
        alignments();
        bytes();
        names();
        numbers();
        definedPlaces();
        commonsAndWanted();
        references();
        referencesAtPlaces();
        referencesToNames();
        firstOneTold();
        noSuchObject();
        check.end();
    }

    private static void calls() {
        check.sentence("What it is", "An object is used for at most 512 calls after it has been made");
        Subject x = Scenes.plain(4);
        x.bytes(0, 0, 0, 0x01020304);
        while (x.callsLeft() > 2) {
            x.choose(0);
            check.due(4, () -> x.link(0, x.callsLeft()));
        }
        check.due(1, () -> x.choose(0));
        check.due(4, () -> x.link(0, 7));
        check.holds("all calls are used", x.callsLeft() == 0);
        Subject y = Scenes.plain(4);
        y.write(0);
        while (y.callsLeft() > 1) {
            check.argument(() -> y.read(1));
        }
        check.due(1, () -> y.read(0));
    }

    private static void none() {
        check.sentence("Terms", "`NONE = -1`: Nothing there.");
        check.holds("NONE is -1", ObjectLinks.NONE == -1);
        Subject x = Scenes.plain(4);
        check.due(ObjectLinks.NONE, () -> x.placeOf(0, 0));
        check.due(ObjectLinks.NONE, () -> x.nameAt(0));
        check.due(ObjectLinks.NONE, () -> x.fault(1));
        check.due(ObjectLinks.NONE, () -> x.count(10));
    }

    private static void objects() {
        check.sentence("Terms", "OBJECTS are numbered from 0 (12 at most).");
        Subject built = new Subject();
        Subject read = Scenes.objects(1);
        read.write(0);
        for (int i = 0; i < 12; i++) {
            check.due(i, built::object);
            if (i > 0) {
                check.due(i, () -> read.read(0));
            }
        }
        for (Subject full : new Subject[] {built, read}) {
            full.write(11);
            check.unsupported(full::object, () -> full.read(0));
            check.due(12, () -> full.count(0));
            check.due(1, () -> full.choose(0));
            check.due(2, () -> full.choose(11));
            check.index(() -> full.choose(12), () -> full.choose(-1));
        }
    }

    private static void sections() {
        check.sentence("Terms", "An object has SECTIONS (8 at most)");
        Subject x = Scenes.objects(12);
        for (int object = 0; object < 12; object++) {
            int o = object;
            for (int i = 0; i < 8; i++) {
                int kind = i % 4;
                check.due(i, () -> x.section(o, kind, 0, 1));
            }
            check.unsupported(() -> x.section(o, 0, 0, 1));
            check.due(-1, () -> x.placeOf(o, 7));
            check.argument(() -> x.placeOf(o, 8));
        }
        check.due(0, () -> x.name(0, 1, 0, 7, 1));
        check.argument(() -> x.name(0, 2, 0, 8, 0));
    }

    private static void kinds() {
        check.sentence("Terms", "each with a KIND (0 CODE, 1 FIXED, 2 DATA, 3 EMPTY)");
        for (int kind = 0; kind < 4; kind++) {
            Subject x = Scenes.objects(1);
            int asked = kind;
            check.due(0, () -> x.section(0, asked, 0, 4));
            if (kind < 3) {
                check.due(4, () -> x.bytes(0, 0, 0, 1));
            } else {
                check.argument(() -> x.bytes(0, 0, 0, 1));
            }
        }
        Subject x = Scenes.objects(1);
        check.argument(() -> x.section(0, -1, 0, 4), () -> x.section(0, 4, 0, 4));
        check.due(0, () -> x.count(7));
    }

    private static void alignments() {
        check.sentence("Terms", "an ALIGNMENT (2 to the power 0 .. 6)");
        for (int power = 0; power <= 6; power++) {
            int asked = power;
            Subject x = Scenes.objects(1);
            check.due(0, () -> x.section(0, 0, asked, 1));
            x.name(0, 5, 0, 0, 0);
            check.due(1, () -> x.name(0, 6, 2, asked, 1));
            for (int base : new int[] {0, 1, (1 << power) - 1, 1 << power, (1 << power) + 1, 1000000 - 1}) {
                int place = (base + (1 << power) - 1) / (1 << power) * (1 << power);
                x.choose(0);
                check.due(place - base + 1, () -> x.link(5, base));
                check.due(place - base, () -> x.placeOf(0, 0));
                x.choose(0);
                check.due(place - base + 1, () -> x.link(6, base));
                check.due(place, () -> x.nameAt(6));
            }
        }
        Subject y = Scenes.objects(1);
        check.argument(() -> y.section(0, 0, -1, 1), () -> y.section(0, 0, 7, 1));
        check.argument(() -> y.name(0, 5, 2, -1, 1), () -> y.name(0, 5, 2, 7, 1));
        check.counts(y, 7, 0, 0);
    }

    private static void bytes() {
        check.sentence("Terms", "BYTES (EMPTY: only how many, all 0; others up to 128)");
        for (int kind = 0; kind < 3; kind++) {
            int asked = kind;
            Subject x = Scenes.objects(1);
            check.argument(() -> x.section(0, asked, 0, 129));
            check.due(0, () -> x.section(0, asked, 0, 128));
            check.due(1, () -> x.bytes(0, 0, 127, -1));
            check.argument(() -> x.bytes(0, 0, 128, -1));
            check.due(5 + 4 + 128 + 2, () -> x.write(0));
        }
        Subject x = Scenes.plain(128);
        for (int at = 0; at < 128; at += 4) {
            x.bytes(0, 0, at, -1);
        }
        x.choose(0);
        x.link(0, 0);
        check.image(x, 127, 255);
        x.object();
        check.due(0, () -> x.section(1, 3, 0, 128));
        check.argument(() -> x.section(1, 3, 0, 129));
        check.due(5 + 4 + 2, () -> x.write(1));
        x.name(1, 1, 0, 0, 128);
        x.choose(1);
        check.due(128, () -> x.link(1, 0));
        check.image(x, 0, new int[128]);
        check.due(128, () -> x.nameAt(1));
    }

    private static void names() {
        check.sentence("Terms", "NAMES (12 at most)");
        Subject x = Scenes.objects(12);
        for (int object = 0; object < 12; object++) {
            int o = object;
            for (int i = 0; i < 12; i++) {
                int number = 100 * o + i;
                check.due(i, () -> x.name(o, number, 2, 0, 1));
            }
            check.unsupported(() -> x.name(o, 100 * o + 12, 2, 0, 1));
            x.choose(o);
        }
        // all of them are known in linking, the first and the last, too
        check.due(1, () -> x.link(0, 0));
        x.chooseAll(0, 11);
        check.due(1, () -> x.link(1111, 0));
        x.chooseAll(0, 11);
        check.unsupported(() -> x.link(1112, 0));
    }

    private static void numbers() {
        check.sentence("Terms", "each a number (an int)");
        int[] numbers = {Integer.MIN_VALUE, Integer.MIN_VALUE + 1, -1, 0, 1, Integer.MAX_VALUE};
        Subject x = Scenes.objects(1);
        x.section(0, 0, 0, 10);
        for (int i = 0; i < numbers.length; i++) {
            int at = i;
            check.due(at, () -> x.name(0, numbers[at], 0, 0, at));
            check.argument(() -> x.name(0, numbers[at], 3, 0, 0));
        }
        for (int entry : numbers) {
            x.choose(0);
            check.due(10, () -> x.link(entry, 100));
            for (int i = 0; i < numbers.length; i++) {
                int at = i;
                check.due(100 + at, () -> x.nameAt(numbers[at]));
            }
            check.due(-1, () -> x.nameAt(2));
        }
    }

    private static void definedPlaces() {
        check.sentence("Terms", "either DEFINED at a place in a section (up to its length), STRONG or WEAK");
        int[][] kindsAndLengths = {{0, 5}, {2, 0}, {3, 7}, {3, 0}, {1, 128}};
        for (int[] row : kindsAndLengths) {
            for (int sort = 0; sort <= 1; sort++) {
                int asked = sort;
                Subject x = Scenes.objects(1);
                x.section(0, row[0], 0, row[1]);
                check.argument(() -> x.name(0, 1, asked, 0, -1), () -> x.name(0, 1, asked, 0, row[1] + 1));
                check.due(0, () -> x.name(0, 1, asked, 0, 0));
                check.due(1, () -> x.name(0, 2, asked, 0, row[1]));
                x.choose(0);
                check.due(row[1], () -> x.link(2, 10));
                check.due(10, () -> x.nameAt(1));
                check.due(10 + row[1], () -> x.nameAt(2));
            }
        }
    }

    private static void commonsAndWanted() {
        check.sentence("Terms", "or COMMON with a size and an alignment, or WANTED");
        int[][] sizesAndPowers = {{1, 0}, {1024, 0}, {1, 6}, {1024, 6}};
        for (int[] row : sizesAndPowers) {
            Subject x = Scenes.objects(1);
            check.due(0, () -> x.name(0, 1, 2, row[1], row[0]));
            x.choose(0);
            int place = 64 >> 6 - row[1];
            check.due(place - 1 + row[0], () -> x.link(1, 1));
            check.due(place, () -> x.nameAt(1));
            check.image(x, place - 1 + row[0] - 1, 0);
        }
        Subject x = Scenes.objects(1);
        check.due(0, () -> x.name(0, 1, 3, 0, 0));
        x.choose(0);
        check.unsupported(() -> x.link(1, 0));
    }

    private static void references() {
        check.sentence("Terms", "REFERENCES (16 at most)");
        Subject x = Scenes.plain(32, 32);
        for (int object = 0; object < 2; object++) {
            int o = object;
            for (int i = 0; i < 16; i++) {
                int at = i;
                check.due(i, () -> x.reference(o, 0, 2 * at, 1, 0, 1000 + at));
            }
            check.unsupported(() -> x.reference(o, 0, 0, 1, 0, 0));
        }
        // each of the sixteen is worked in
        x.choose(0);
        check.due(32, () -> x.link(0, 0));
        for (int i = 0; i < 16; i++) {
            check.image(x, 2 * i, 1000 + i >> 8, 1000 + i & 255);
        }
    }

    private static void referencesAtPlaces() {
        check.sentence("Terms", "at a place in a section that is not EMPTY");
        Subject x = Scenes.objects(1);
        for (int kind = 0; kind < 4; kind++) {
            x.section(0, kind, 0, 4);
        }
        x.name(0, 1, 0, 3, 0);
        for (int kind = 0; kind < 3; kind++) {
            int section = kind;
            check.due(2 * kind, () -> x.reference(0, section, 0, 0, 0, 0));
            check.due(2 * kind + 1, () -> x.reference(0, section, 4, 0, 0, 0));
        }
        check.argument(() -> x.reference(0, 3, 0, 0, 0, 0), () -> x.reference(0, 3, 4, 0, 0, 0));
        check.argument(() -> x.reference(0, 4, 0, 0, 0, 0), () -> x.reference(0, -1, 0, 0, 0, 0));
        check.due(6, () -> x.count(9));
    }

    private static void referencesToNames() {
        check.sentence("Terms", "to a name of the object's list, with an ADDEND and a WAY.");
        Subject x = Scenes.plain(4, 4);
        for (int i = 1; i < 12; i++) {
            x.name(0, i, 3, 0, 0);
        }
        check.due(0, () -> x.reference(0, 0, 0, 0, 0, Integer.MIN_VALUE));
        check.due(1, () -> x.reference(0, 0, 0, 4, 11, Integer.MAX_VALUE));
        check.argument(() -> x.reference(0, 0, 0, 0, 12, 0), () -> x.reference(0, 0, 0, 0, -1, 0));
        check.argument(() -> x.reference(0, 0, 0, 5, 0, 0), () -> x.reference(0, 0, 0, -1, 0, 0));
        check.argument(() -> x.reference(1, 0, 0, 0, 1, 0));
        check.due(0, () -> x.reference(1, 0, 0, 0, 0, 0));
    }

    /** Object 0 of twelve is full of everything. */
    private static Subject full() {
        Subject x = Scenes.objects(12);
        for (int i = 0; i < 8; i++) {
            x.section(0, 0, 0, 4);
        }
        for (int i = 0; i < 12; i++) {
            x.name(0, i, 3, 0, 0);
        }
        for (int i = 0; i < 16; i++) {
            x.reference(0, 0, 0, 0, 0, 0);
        }
        return x;
    }

    private static void firstOneTold() {
        check.sentence("Terms", "Of several exceptions the first one told is thrown.");
        Subject x = full();
        check.index(() -> x.section(12, 9, 9, 999), () -> x.section(12, 0, 0, 4));
        check.argument(() -> x.section(0, 9, 0, 4), () -> x.section(0, 0, 9, 4), () -> x.section(0, 0, 0, 129));
        check.unsupported(() -> x.section(0, 0, 0, 4));
        check.index(() -> x.bytes(12, 9, 9, 0));
        check.argument(() -> x.bytes(0, 8, 9, 0));
        check.index(() -> x.name(12, 0, 9, 9, 9));
        check.argument(() -> x.name(0, 50, 9, 0, 0), () -> x.name(0, 50, 0, 8, 0), () -> x.name(0, 50, 2, 0, 0));
        check.argument(() -> x.name(0, 50, 3, 0, 1), () -> x.name(0, 11, 3, 0, 0));
        check.unsupported(() -> x.name(0, 50, 3, 0, 0));
        check.index(() -> x.reference(12, 9, 9, 9, 99, 0));
        check.argument(() -> x.reference(0, 8, 0, 0, 0, 0), () -> x.reference(0, 0, 5, 0, 0, 0));
        check.argument(() -> x.reference(0, 0, 0, 5, 0, 0), () -> x.reference(0, 0, 0, 0, 12, 0));
        check.unsupported(() -> x.reference(0, 0, 0, 0, 0, 0));
        check.index(() -> x.placeOf(12, 9));
        check.argument(() -> x.placeOf(0, 8));
        check.argument(() -> x.link(0, -1), () -> x.link(0, 1000001));
        check.state(() -> x.link(0, 0));
        x.choose(0);
        check.argument(() -> x.link(0, -1), () -> x.choose(0));
        check.unsupported(() -> x.link(0, 0));
        check.index(() -> x.alter(0, 256));
        check.argument(() -> x.read(-1), () -> x.read(0), () -> x.read(1));
        int many = x.write(0);
        check.index(() -> x.alter(many, 256));
        check.argument(() -> x.alter(0, 256), () -> x.read(1), () -> x.read(many + 1));
        check.unsupported(() -> x.read(0));
    }

    private static void isNone(Subject x, int object) {
        check.index(() -> x.section(object, 0, 0, 4), () -> x.section(object, 9, 9, 999));
        check.index(() -> x.bytes(object, 0, 0, 1), () -> x.bytes(object, 9, 9, 9));
        check.index(() -> x.name(object, 50, 3, 0, 0), () -> x.name(object, 50, 9, 9, 9));
        check.index(() -> x.reference(object, 0, 0, 0, 0, 0), () -> x.reference(object, 9, 9, 9, 9, 9));
        check.index(() -> x.choose(object), () -> x.write(object));
        check.index(() -> x.placeOf(object, 0), () -> x.placeOf(object, 9));
    }

    private static void noSuchObject() {
        check.sentence("Terms", "For all calls with an object: IndexOutOfBoundsException (first), when there is none.");
        Subject x = new Subject();
        for (int object : new int[] {Integer.MIN_VALUE, -1, 0, 1, Integer.MAX_VALUE}) {
            isNone(x, object);
        }
        Subject y = Scenes.plain(4, 4);
        for (int object : new int[] {Integer.MIN_VALUE, -1, 2, 11, 12, Integer.MAX_VALUE}) {
            isNone(y, object);
        }
        for (int object = 0; object < 2; object++) {
            int o = object;
            check.due(1, () -> y.section(o, 0, 0, 4));
            check.due(4, () -> y.bytes(o, 0, 0, 1));
            check.due(1, () -> y.name(o, 50, 3, 0, 0));
            check.due(0, () -> y.reference(o, 0, 0, 0, 0, 0));
            check.due(o + 1, () -> y.choose(o));
            check.due(-1, () -> y.placeOf(o, 0));
            check.due(5 + 2 * 8 + 2 * 8 + 9 + 2, () -> y.write(o));
        }
        Consumer<Subject> refused = z -> {
            isNone(z, -1);
            isNone(z, 2);
        };
        check.changesNothing(Scenes::lively, refused, Scenes.LIVELY_NAMES);
    }
}
