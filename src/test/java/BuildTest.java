import java.util.function.Consumer;

/** Promises 1 to 6, sentence by sentence: a new object, object, section, bytes, name, reference. */
public final class BuildTest {
    private static final int[] FAR = {Integer.MIN_VALUE, -2, 1 << 20, Integer.MAX_VALUE};

    private static final Check check = new Check("BuildTest");

    public static void main(String[] args) {
        noObjectsNoImage();
        objectMore();
        twelveObjects();
        sectionMore();
        sectionThatIsNone();
        eightSections();
        newBytes();
        fourBytes();
        noSuchByte();
        nameMore();
        definedNames();
        commonNames();
        wantedNames();
        nameThatCanNotBe();
        nameThereAlready();
        twelveNames();
        referenceMore();
        referencePlaces();
        referenceThatIsNone();
        sixteenReferences();
        check.end();
    }

    private static void changesNothing(Consumer<Subject> refused) {
        check.changesNothing(Scenes::lively, refused, Scenes.LIVELY_NAMES);
    }

    private static void noObjectsNoImage() {
        check.sentence("Promise 1", "No objects, no image.");
        Subject x = new Subject();
        check.counts(x, 0, 0, 0, 0, 0, 0, 0, 0, -1, -1, -1);
        check.fault(x, 0, -1, -1);
        check.index(() -> x.image(0), () -> x.written(0), () -> x.alter(0, 0));
        check.index(() -> x.choose(0), () -> x.write(0), () -> x.placeOf(0, 0));
        check.due(-1, () -> x.nameAt(0));
        check.state(() -> x.link(0, 0));
        check.argument(() -> x.read(0));
        Subject other = Scenes.objects(1);
        check.due(0, x::object);
        check.due(1, other::object);
    }

    private static void objectMore() {
        check.sentence("Promise 2", "An object more: its number.");
        Subject x = new Subject();
        for (int i = 0; i < 3; i++) {
            check.due(i, x::object);
            check.due(i + 1, () -> x.count(0));
            check.counts(x, 7, 0, 0, 0);
            x.section(i, 0, 0, 1);
        }
    }

    private static void twelveObjects() {
        check.sentence("Promise 2", "UnsupportedOperationException, when there are twelve.");
        Subject x = Scenes.objects(11);
        check.due(11, x::object);
        check.unsupported(x::object, x::object);
        check.due(12, () -> x.count(0));
        check.index(() -> x.choose(12));
        check.changesNothing(() -> Scenes.objects(12), y -> check.unsupported(y::object));
    }

    private static void sectionMore() {
        check.sentence("Promise 3", "A section more: its number.");
        Subject x = Scenes.objects(2);
        check.due(0, () -> x.section(1, 0, 0, 1));
        check.due(1, () -> x.section(1, 3, 6, 128));
        check.due(0, () -> x.section(0, 2, 1, 0));
        check.due(2, () -> x.section(1, 0, 0, 1));
        check.due(3, () -> x.count(7));
    }

    private static void sectionThatIsNone() {
        check.sentence("Promise 3",
                "IllegalArgumentException, when the kind, the alignment's power or the length (0 .. 128) is none");
        Subject x = Scenes.objects(1);
        check.argument(() -> x.section(0, -1, 0, 0), () -> x.section(0, 4, 0, 0));
        check.argument(() -> x.section(0, 0, -1, 0), () -> x.section(0, 0, 7, 0));
        for (int kind = 0; kind < 4; kind++) {
            int asked = kind;
            check.argument(() -> x.section(0, asked, 0, -1), () -> x.section(0, asked, 0, 129));
        }
        for (int far : FAR) {
            check.argument(() -> x.section(0, far, 0, 0), () -> x.section(0, 0, far, 0), () -> x.section(0, 0, 0, far));
        }
        check.due(0, () -> x.count(7));
        for (int kind = 0; kind < 4; kind++) {
            int asked = kind;
            check.due(2 * kind, () -> x.section(0, asked, 0, 0));
            check.due(2 * kind + 1, () -> x.section(0, asked, 6, 128));
        }
        changesNothing(y -> check.argument(() -> y.section(1, 4, 0, 0), () -> y.section(1, 0, 7, 0),
                () -> y.section(1, 0, 0, 129)));
    }

    private static Subject eight() {
        Subject x = Scenes.objects(2);
        for (int i = 0; i < 8; i++) {
            x.section(1, i % 4, 0, i);
        }
        return x;
    }

    private static void eightSections() {
        check.sentence("Promise 3", "UnsupportedOperationException, when there are eight.");
        Subject x = Scenes.objects(2);
        for (int i = 0; i < 7; i++) {
            x.section(1, 0, 0, 4);
        }
        check.due(7, () -> x.section(1, 0, 0, 4));
        check.unsupported(() -> x.section(1, 0, 0, 4), () -> x.section(1, 3, 6, 128), () -> x.section(1, 0, 0, 0));
        check.due(8, () -> x.count(7));
        check.due(0, () -> x.section(0, 0, 0, 4));
        check.changesNothing(BuildTest::eight, y -> check.unsupported(() -> y.section(1, 0, 0, 4)));
    }

    private static void newBytes() {
        check.sentence("Promise 3", "Its bytes are 0.");
        for (int kind = 0; kind < 3; kind++) {
            Subject x = Scenes.objects(1);
            int asked = kind;
            check.due(0, () -> x.section(0, asked, 0, 128));
            x.write(0);
            check.written(x, 9, new int[128]);
        }
        Subject y = Scenes.plain(4);
        y.bytes(0, 0, 0, -1);
        y.section(0, 0, 0, 4);
        y.name(0, 1, 0, 1, 0);
        y.choose(0);
        y.link(1, 0);
        check.image(y, 0, 0, 0, 0, 0);
    }

    private static Subject sixBytes() {
        Subject x = Scenes.objects(1);
        x.section(0, 2, 0, 6);
        x.bytes(0, 0, 0, 0x21222324);
        x.bytes(0, 0, 4, 0x25262728);
        return x;
    }

    private static void fourBytes() {
        check.sentence("Promise 4", "Four bytes of a section from a place on are another number,"
                + " the highest first (as far as it goes): how many bytes that were.");
        int[][] rows = {
            {0, 4, 0x81, 0x92, 0xA3, 0xB4, 0x25, 0x26},
            {1, 4, 0x21, 0x81, 0x92, 0xA3, 0xB4, 0x26},
            {2, 4, 0x21, 0x22, 0x81, 0x92, 0xA3, 0xB4},
            {3, 3, 0x21, 0x22, 0x23, 0x81, 0x92, 0xA3},
            {4, 2, 0x21, 0x22, 0x23, 0x24, 0x81, 0x92},
            {5, 1, 0x21, 0x22, 0x23, 0x24, 0x25, 0x81},
        };
        for (int[] row : rows) {
            Subject x = sixBytes();
            check.due(row[1], () -> x.bytes(0, 0, row[0], 0x8192A3B4));
            x.write(0);
            check.written(x, 9, row[2], row[3], row[4], row[5], row[6], row[7]);
        }
        for (int length = 1; length <= 4; length++) {
            Subject x = Scenes.objects(1);
            x.section(0, 0, 0, length);
            check.due(length, () -> x.bytes(0, 0, 0, -1));
        }
        Subject longest = Scenes.objects(1);
        longest.section(0, 1, 0, 128);
        check.due(4, () -> longest.bytes(0, 0, 124, 0x01020304));
        check.due(1, () -> longest.bytes(0, 0, 127, 0x7F000000));
        longest.write(0);
        check.written(longest, 9 + 123, 0, 1, 2, 3, 0x7F);
    }

    private static void noSuchByte() {
        check.sentence("Promise 4",
                "IllegalArgumentException, when there is no such section, it is EMPTY, or has no such byte.");
        Subject x = sixBytes();
        x.section(0, 3, 0, 6);
        x.section(0, 0, 0, 0);
        check.argument(() -> x.bytes(0, -1, 0, 5), () -> x.bytes(0, 3, 0, 5));
        check.argument(() -> x.bytes(0, 1, 0, 5), () -> x.bytes(0, 1, 5, 5));
        check.argument(() -> x.bytes(0, 2, 0, 5));
        check.argument(() -> x.bytes(0, 0, -1, 5), () -> x.bytes(0, 0, 6, 5));
        for (int far : FAR) {
            check.argument(() -> x.bytes(0, far, 0, 5), () -> x.bytes(0, 0, far, 5));
        }
        x.write(0);
        check.written(x, 9, 0x21, 0x22, 0x23, 0x24, 0x25, 0x26);
        check.due(4, () -> x.bytes(0, 0, 0, 5));
        check.due(1, () -> x.bytes(0, 0, 5, 5));
        changesNothing(y -> check.argument(() -> y.bytes(0, 2, 0, 5), () -> y.bytes(0, 1, 0, 5),
                () -> y.bytes(0, 0, -1, 5), () -> y.bytes(0, 0, 6, 5)));
    }

    private static void nameMore() {
        check.sentence("Promise 5", "A name more: its number in the list.");
        Subject x = Scenes.objects(2);
        check.due(0, () -> x.name(1, 500, 3, 0, 0));
        check.due(1, () -> x.name(1, 3, 2, 0, 1));
        check.due(0, () -> x.name(0, 500, 3, 0, 0));
        check.due(2, () -> x.name(1, -7, 3, 0, 0));
        check.due(3, () -> x.count(8));
    }

    private static void definedNames() {
        check.sentence("Promise 5", "Sort 0 strong, 1 weak (section, place)");
        for (int sort = 0; sort <= 1; sort++) {
            int asked = sort;
            Subject x = Scenes.objects(1);
            check.argument(() -> x.name(0, 1, asked, 0, 0));
            x.section(0, 0, 0, 5);
            x.section(0, 3, 0, 128);
            check.argument(() -> x.name(0, 1, asked, -1, 0), () -> x.name(0, 1, asked, 2, 0));
            check.argument(() -> x.name(0, 1, asked, 0, -1), () -> x.name(0, 1, asked, 0, 6));
            check.argument(() -> x.name(0, 1, asked, 1, -1), () -> x.name(0, 1, asked, 1, 129));
            for (int far : FAR) {
                check.argument(() -> x.name(0, 1, asked, far, 0), () -> x.name(0, 1, asked, 0, far));
            }
            check.due(0, () -> x.count(8));
            check.due(0, () -> x.name(0, 1, asked, 0, 0));
            check.due(1, () -> x.name(0, 2, asked, 0, 5));
            check.due(2, () -> x.name(0, 3, asked, 1, 0));
            check.due(3, () -> x.name(0, 4, asked, 1, 128));
        }
    }

    private static void commonNames() {
        check.sentence("Promise 5", "2 common (alignment's power, size 1 .. 1024)");
        Subject x = Scenes.objects(1);
        check.argument(() -> x.name(0, 1, 2, 0, 0), () -> x.name(0, 1, 2, 0, 1025), () -> x.name(0, 1, 2, 0, -1));
        check.argument(() -> x.name(0, 1, 2, -1, 1), () -> x.name(0, 1, 2, 7, 1));
        for (int far : FAR) {
            check.argument(() -> x.name(0, 1, 2, far, 1), () -> x.name(0, 1, 2, 0, far));
        }
        check.due(0, () -> x.count(8));
        check.due(0, () -> x.name(0, 1, 2, 0, 1));
        check.due(1, () -> x.name(0, 2, 2, 6, 1024));
        x.choose(0);
        check.due(1, () -> x.link(1, 1));
        check.due(1, () -> x.nameAt(1));
        x.choose(0);
        check.due(63 + 1024, () -> x.link(2, 1));
        check.due(64, () -> x.nameAt(2));
    }

    private static void wantedNames() {
        check.sentence("Promise 5", "3 wanted (both 0).");
        Subject x = Scenes.objects(1);
        x.section(0, 0, 0, 4);
        x.section(0, 0, 0, 4);
        check.argument(() -> x.name(0, 1, 3, 1, 0), () -> x.name(0, 1, 3, 0, 1), () -> x.name(0, 1, 3, 1, 1));
        check.argument(() -> x.name(0, 1, 3, -1, 0), () -> x.name(0, 1, 3, 0, -1));
        for (int far : FAR) {
            check.argument(() -> x.name(0, 1, 3, far, 0), () -> x.name(0, 1, 3, 0, far));
        }
        check.due(0, () -> x.count(8));
        check.due(0, () -> x.name(0, 1, 3, 0, 0));
        Subject without = Scenes.objects(1);
        check.due(0, () -> without.name(0, 1, 3, 0, 0));
    }

    private static void nameThatCanNotBe() {
        check.sentence("Promise 5", "IllegalArgumentException, when that can not be");
        Subject x = Scenes.plain(4);
        check.argument(() -> x.name(0, 5, -1, 0, 0), () -> x.name(0, 5, 4, 0, 0), () -> x.name(0, 5, 4, 0, 1));
        for (int far : FAR) {
            check.argument(() -> x.name(0, 5, far, 0, 0));
        }
        check.due(1, () -> x.count(8));
        check.due(1, () -> x.name(0, 5, 0, 0, 0));
        check.due(2, () -> x.name(0, 6, 3, 0, 0));
        changesNothing(y -> check.argument(() -> y.name(1, 50, 4, 0, 0), () -> y.name(1, 50, 0, 0, 6),
                () -> y.name(1, 50, 2, 0, 0), () -> y.name(1, 50, 3, 1, 0)));
    }

    private static void nameThereAlready() {
        check.sentence("Promise 5", "or the object has the name already");
        for (int first = 0; first < 4; first++) {
            Subject x = Scenes.plain(4, 4);
            x.name(0, 50, first, 0, first == 3 ? 0 : 1);
            check.argument(() -> x.name(0, 50, 0, 0, 0), () -> x.name(0, 50, 1, 0, 0));
            check.argument(() -> x.name(0, 50, 2, 0, 1), () -> x.name(0, 50, 3, 0, 0));
            check.due(2, () -> x.name(0, 51, 3, 0, 0));
            check.due(1, () -> x.name(1, 50, 0, 0, 0));
        }
        changesNothing(y -> check.argument(() -> y.name(1, 7, 0, 0, 0), () -> y.name(1, 1, 3, 0, 0)));
    }

    private static Subject twelve() {
        Subject x = Scenes.objects(2);
        for (int i = 0; i < 12; i++) {
            x.name(1, 100 + i, 3, 0, 0);
        }
        return x;
    }

    private static void twelveNames() {
        check.sentence("Promise 5", "UnsupportedOperationException, when there are twelve.");
        Subject x = Scenes.objects(2);
        for (int i = 0; i < 11; i++) {
            x.name(1, 100 + i, 3, 0, 0);
        }
        check.due(11, () -> x.name(1, 111, 2, 0, 1));
        check.unsupported(() -> x.name(1, 112, 3, 0, 0), () -> x.name(1, 113, 2, 0, 1));
        check.argument(() -> x.name(1, 111, 3, 0, 0));
        check.due(12, () -> x.count(8));
        check.due(0, () -> x.name(0, 112, 3, 0, 0));
        check.changesNothing(BuildTest::twelve, y -> check.unsupported(() -> y.name(1, 112, 3, 0, 0)));
    }

    private static void referenceMore() {
        check.sentence("Promise 6", "A reference more: its number.");
        Subject x = Scenes.plain(4, 4);
        check.due(0, () -> x.reference(1, 0, 0, 0, 0, 0));
        check.due(1, () -> x.reference(1, 0, 0, 0, 0, 0));
        check.due(0, () -> x.reference(0, 0, 1, 3, 0, Integer.MIN_VALUE));
        check.due(2, () -> x.reference(1, 0, 4, 4, 0, Integer.MAX_VALUE));
        check.due(3, () -> x.count(9));
    }

    private static void referencePlaces() {
        check.sentence("Promise 6", "the place is not 0 up to its length");
        for (int way = 0; way < 5; way++) {
            int asked = way;
            Subject x = Scenes.plain(5, 0);
            check.argument(() -> x.reference(0, 0, -1, asked, 0, 0), () -> x.reference(0, 0, 6, asked, 0, 0));
            check.argument(() -> x.reference(1, 0, -1, asked, 0, 0), () -> x.reference(1, 0, 1, asked, 0, 0));
            for (int far : FAR) {
                check.argument(() -> x.reference(0, 0, far, asked, 0, 0));
            }
            check.due(0, () -> x.count(9));
            check.due(0, () -> x.reference(0, 0, 0, asked, 0, 0));
            check.due(1, () -> x.reference(0, 0, 5, asked, 0, 0));
            check.due(0, () -> x.reference(1, 0, 0, asked, 0, 0));
        }
        Subject longest = Scenes.plain(128);
        check.argument(() -> longest.reference(0, 0, 129, 0, 0, 0));
        check.due(0, () -> longest.reference(0, 0, 128, 0, 0, 0));
    }

    private static void referenceThatIsNone() {
        check.sentence("Promise 6", "IllegalArgumentException, when there is no such section, it is EMPTY,"
                + " the place is not 0 up to its length, the way not 0 .. 4, or there is no such name in the list");
        Subject x = Scenes.objects(1);
        x.section(0, 1, 0, 5);
        x.section(0, 3, 0, 5);
        check.argument(() -> x.reference(0, 0, 0, 0, 0, 0));
        x.name(0, 77, 3, 0, 0);
        x.name(0, 1, 3, 0, 0);
        check.argument(() -> x.reference(0, -1, 0, 0, 0, 0), () -> x.reference(0, 2, 0, 0, 0, 0));
        check.argument(() -> x.reference(0, 1, 0, 0, 0, 0), () -> x.reference(0, 1, 5, 3, 0, 0));
        check.argument(() -> x.reference(0, 0, 0, -1, 0, 0), () -> x.reference(0, 0, 0, 5, 0, 0));
        check.argument(() -> x.reference(0, 0, 0, 0, -1, 0), () -> x.reference(0, 0, 0, 0, 2, 0));
        check.argument(() -> x.reference(0, 0, 0, 0, 77, 0));
        for (int far : FAR) {
            check.argument(() -> x.reference(0, far, 0, 0, 0, 0), () -> x.reference(0, 0, 0, far, 0, 0));
            check.argument(() -> x.reference(0, 0, 0, 0, far, 0));
        }
        check.due(0, () -> x.count(9));
        check.due(0, () -> x.reference(0, 0, 0, 0, 0, 0));
        check.due(1, () -> x.reference(0, 0, 0, 4, 1, 0));
        changesNothing(y -> check.argument(() -> y.reference(1, 2, 0, 0, 0, 0), () -> y.reference(0, 1, 0, 0, 0, 0),
                () -> y.reference(1, 0, 6, 0, 0, 0), () -> y.reference(1, 0, 0, 5, 0, 0),
                () -> y.reference(1, 0, 0, 0, 3, 0)));
    }

    private static Subject sixteen() {
        Subject x = Scenes.plain(4, 4);
        for (int i = 0; i < 16; i++) {
            x.reference(1, 0, 0, 0, 0, i);
        }
        return x;
    }

    private static void sixteenReferences() {
        check.sentence("Promise 6", "UnsupportedOperationException, when there are sixteen.");
        Subject x = Scenes.plain(4, 4);
        for (int i = 0; i < 15; i++) {
            x.reference(1, 0, 0, 0, 0, i);
        }
        check.due(15, () -> x.reference(1, 0, 4, 4, 0, 0));
        check.unsupported(() -> x.reference(1, 0, 0, 0, 0, 0), () -> x.reference(1, 0, 4, 4, 0, 0));
        check.due(16, () -> x.count(9));
        check.due(0, () -> x.reference(0, 0, 0, 0, 0, 0));
        check.changesNothing(BuildTest::sixteen, y -> check.unsupported(() -> y.reference(1, 0, 0, 0, 0, 0)));
    }
}
