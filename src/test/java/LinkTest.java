/** Promises 7 to 12 and 17, sentence by sentence: choose, link, fault, image, placeOf, nameAt, count. */
public final class LinkTest {
    private static final Check check = new Check("LinkTest");

    public static void main(String[] args) {
        chosenBehindTheOthers();
        chosenAlready();
        linksWhatIsChosen();
        withAFaultToo();
        bases();
        nothingChosen();
        thereIsAFault();
        faultTold();
        faultOfAnotherWhat();
        imageBytes();
        noSuchImageByte();
        whereASectionLies();
        whereNoSectionLies();
        placeOfNoSection();
        whereANameLies();
        whereNoNameLies();
        asItWasAtTheLinking();
        countsOfAll();
        countsOfTheLatest();
        countOfAnotherWhat();
        check.end();
    }

    private static void chosenBehindTheOthers() {
        check.sentence("Promise 7", "An object is chosen, behind the others: how many are.");
        Subject x = Scenes.objects(12);
        for (int i = 0; i < 12; i++) {
            int object = 11 - i;
            check.due(i + 1, () -> x.choose(object));
            check.due(i + 1, () -> x.count(1));
        }
        Subject y = Scenes.plain(4, 4);
        y.name(0, 1, 3, 0, 0);
        y.reference(0, 0, 0, 0, 1, 0);
        y.chooseAll(1, 0);
        check.due(8, () -> y.link(0, 0));
        check.due(0, () -> y.placeOf(1, 0));
        check.due(4, () -> y.placeOf(0, 0));
    }

    private static void chosenAlready() {
        check.sentence("Promise 7", "IllegalArgumentException, when it is already.");
        Subject x = Scenes.plain(4, 4, 4);
        x.chooseAll(2, 0);
        check.argument(() -> x.choose(2), () -> x.choose(0));
        check.due(2, () -> x.count(1));
        check.due(3, () -> x.choose(1));
        check.argument(() -> x.choose(0), () -> x.choose(1), () -> x.choose(2));
        check.due(4, () -> x.link(0, 0));
        check.due(1, () -> x.choose(2));
        check.unsupported(() -> x.link(0, 0));
        check.due(1, () -> x.choose(2));
        check.changesNothing(Scenes::lively, y -> check.argument(() -> y.choose(1)), Scenes.LIVELY_NAMES);
    }

    private static void linksWhatIsChosen() {
        check.sentence("Promise 8", "Links what is chosen: the image's length.");
        Subject x = Scenes.plain(4, 9, 0);
        x.chooseAll(0, 1, 2);
        check.due(4, () -> x.link(0, 0));
        check.due(4, () -> x.count(2));
        check.due(0, () -> x.count(1));
        x.choose(1);
        check.due(9, () -> x.link(1, 77));
        check.due(9, () -> x.count(2));
        // an image of no bytes is one, too
        x.choose(2);
        check.due(0, () -> x.link(2, 7));
        check.counts(x, 2, 0, 1, 0, 0);
        check.due(0, () -> x.placeOf(2, 0));
        check.due(7, () -> x.nameAt(2));
        check.fault(x, 0, -1, -1);
    }

    private static void withAFaultToo() {
        check.sentence("Promise 8", "Also with a fault nothing is chosen then, and the image before is gone.");
        Subject x = Scenes.plain(4, 4);
        x.name(0, 40, 2, 3, 5);
        x.reference(0, 0, 0, 0, 1, 0);
        x.choose(0);
        check.due(4 + 3 + 5, () -> x.link(0, 1));
        check.counts(x, 1, 0, 12, 1, 3, 1);
        x.chooseAll(0, 1);
        check.unsupported(() -> x.link(5, 0));
        check.counts(x, 1, 0, 0, 0, 0, 0);
        check.index(() -> x.image(0));
        check.due(-1, () -> x.placeOf(0, 0));
        check.due(-1, () -> x.nameAt(0));
        check.due(-1, () -> x.nameAt(40));
        check.state(() -> x.link(0, 0));
        check.due(1, () -> x.choose(1));
        x.reference(1, 0, 4, 0, 0, 0);
        // a fault that comes late, when places are known already
        check.unsupported(() -> x.link(1, 0));
        check.counts(x, 1, 0, 0, 0, 0, 0);
        check.due(-1, () -> x.placeOf(1, 0));
        check.due(-1, () -> x.nameAt(1));
        check.index(() -> x.image(0));
    }

    private static Subject withAFault() {
        Subject x = Scenes.lively();
        Scenes.faultOfLink(x, 99, 0);
        x.choose(0);
        return x;
    }

    private static Subject withNothingChosen() {
        Subject x = Scenes.lively();
        x.link(1, 5);
        return x;
    }

    private static void bases() {
        check.sentence("Promise 8", "IllegalArgumentException, when the base is not 0 .. 1000000");
        Subject x = Scenes.plain(4);
        x.choose(0);
        check.argument(() -> x.link(0, -1), () -> x.link(0, 1000001));
        check.argument(() -> x.link(0, Integer.MIN_VALUE), () -> x.link(0, Integer.MAX_VALUE));
        check.due(4, () -> x.link(0, 0));
        check.due(0, () -> x.nameAt(0));
        x.choose(0);
        check.due(4, () -> x.link(0, 1000000));
        check.due(1000000, () -> x.nameAt(0));
        check.sentence("Promise 8", "(both change nothing)");
        check.changesNothing(Scenes::lively,
                y -> check.argument(() -> y.link(1, -1), () -> y.link(1, 1000001)), Scenes.LIVELY_NAMES);
        check.changesNothing(LinkTest::withAFault,
                y -> check.argument(() -> y.link(1, -1), () -> y.link(1, 1000001)), Scenes.LIVELY_NAMES);
    }

    private static void nothingChosen() {
        check.sentence("Promise 8", "IllegalStateException, when nothing is chosen (both change nothing)");
        Subject x = Scenes.plain(4);
        check.state(() -> x.link(0, 0), () -> x.link(0, 1000000));
        x.choose(0);
        check.due(4, () -> x.link(0, 0));
        check.state(() -> x.link(0, 0));
        check.due(4, () -> x.count(2));
        check.changesNothing(LinkTest::withNothingChosen,
                y -> check.state(() -> y.link(1, 0)), Scenes.LIVELY_NAMES);
        check.changesNothing(() -> {
            Subject y = withAFault();
            Scenes.faultOfLink(y, 98, 0);
            return y;
        }, y -> check.state(() -> y.link(1, 0)), Scenes.LIVELY_NAMES);
    }

    private static void thereIsAFault() {
        check.sentence("Promise 8", "UnsupportedOperationException, when there is a fault.");
        Subject x = Scenes.plain(4);
        x.choose(0);
        check.unsupported(() -> x.link(1, 0));
        check.due(2, () -> x.fault(0));
        x.choose(0);
        check.due(4, () -> x.link(0, 0));
        check.due(0, () -> x.fault(0));
    }

    private static void faultTold() {
        check.sentence("Promise 9", "The latest linking's fault (what 0; 0 none), the object (1),"
                + " the number (2) that tell it (NONE without a fault).");
        Subject x = Scenes.plain(4, 4);
        check.fault(x, 0, -1, -1);
        x.name(1, 60, 3, 0, 0);
        x.reference(1, 0, 0, 0, 0, 0);
        x.reference(1, 0, 0, 0, 1, 0);
        x.chooseAll(0, 1);
        check.unsupported(() -> x.link(1, 0));
        check.fault(x, 2, 1, 1);
        check.state(() -> x.link(0, 0));
        check.argument(() -> x.link(0, -1));
        x.choose(0);
        check.fault(x, 2, 1, 1);
        check.due(4, () -> x.link(0, 0));
        check.fault(x, 0, -1, -1);
        x.choose(0);
        check.unsupported(() -> x.link(-5, 0));
        check.fault(x, 2, -1, -5);
    }

    private static void faultOfAnotherWhat() {
        check.sentence("Promise 9", "IndexOutOfBoundsException, for another what.");
        Subject x = Scenes.plain(4);
        for (int round = 0; round < 2; round++) {
            check.index(() -> x.fault(-1), () -> x.fault(3));
            check.index(() -> x.fault(Integer.MIN_VALUE), () -> x.fault(Integer.MAX_VALUE));
            check.due(0, () -> x.fault(0));
            check.due(-1, () -> x.fault(2));
            x.choose(0);
            x.link(0, 0);
        }
    }

    private static void imageBytes() {
        check.sentence("Promise 10", "Byte i of the image.");
        Subject x = Scenes.plain(6, 2);
        x.bytes(0, 0, 0, 0x80FF7F01);
        x.bytes(1, 0, 0, 0xFEFDFCFB);
        x.choose(0);
        x.link(0, 3);
        check.image(x, 0, 0x80, 0xFF, 0x7F, 1, 0, 0);
        x.bytes(0, 0, 0, 0);
        check.image(x, 0, 0x80, 0xFF, 0x7F, 1, 0, 0);
        x.choose(1);
        x.link(1, 0);
        check.image(x, 0, 0xFE, 0xFD);
    }

    private static void noSuchImageByte() {
        check.sentence("Promise 10", "IndexOutOfBoundsException, when there is none.");
        Subject x = Scenes.plain(6, 2, 0);
        check.index(() -> x.image(0), () -> x.image(-1));
        x.choose(0);
        x.link(0, 3);
        check.index(() -> x.image(-1), () -> x.image(6), () -> x.image(4096));
        check.index(() -> x.image(Integer.MIN_VALUE), () -> x.image(Integer.MAX_VALUE));
        check.image(x, 0, 0);
        check.image(x, 5, 0);
        x.choose(1);
        x.link(1, 0);
        check.image(x, 1, 0);
        check.index(() -> x.image(2), () -> x.image(5));
        x.choose(2);
        x.link(2, 0);
        check.index(() -> x.image(0));
    }

    private static void whereASectionLies() {
        check.sentence("Promise 11", "Where a section came to lie in the image, from its base on");
        for (int base : new int[] {0, 1, 100, 999999, 1000000}) {
            Subject x = Scenes.plain(3, 3);
            x.name(0, 1, 3, 0, 0);
            x.reference(0, 0, 0, 4, 1, 0);
            x.chooseAll(0, 1);
            check.due(6, () -> x.link(0, base));
            check.due(0, () -> x.placeOf(0, 0));
            check.due(3, () -> x.placeOf(1, 0));
        }
    }

    private static void whereNoSectionLies() {
        check.sentence("Promise 11", "NONE when it was left out, or not chosen, or there is no image.");
        Subject x = Scenes.plain(3, 3, 3);
        check.due(-1, () -> x.placeOf(0, 0));
        x.chooseAll(0, 1);
        check.due(-1, () -> x.placeOf(0, 0));
        x.link(0, 0);
        check.due(0, () -> x.placeOf(0, 0));
        check.due(-1, () -> x.placeOf(1, 0));
        check.due(-1, () -> x.placeOf(2, 0));
        x.choose(1);
        x.link(1, 0);
        check.due(-1, () -> x.placeOf(0, 0));
        check.due(0, () -> x.placeOf(1, 0));
        x.choose(1);
        check.unsupported(() -> x.link(0, 0));
        check.due(-1, () -> x.placeOf(1, 0));
    }

    private static void placeOfNoSection() {
        check.sentence("Promise 11", "IllegalArgumentException, when there is no such section.");
        Subject x = Scenes.plain(3, 3);
        x.section(0, 3, 0, 0);
        for (int round = 0; round < 2; round++) {
            check.argument(() -> x.placeOf(0, -1), () -> x.placeOf(0, 2), () -> x.placeOf(1, 1));
            check.argument(() -> x.placeOf(0, 8), () -> x.placeOf(1, -8));
            check.argument(() -> x.placeOf(0, Integer.MIN_VALUE), () -> x.placeOf(0, Integer.MAX_VALUE));
            check.due(-1, () -> x.placeOf(0, 1));
            check.due(-1, () -> x.placeOf(1, 0));
            x.choose(0);
            x.link(0, 0);
        }
    }

    private static void whereANameLies() {
        check.sentence("Promise 12", "Where a name came to lie (by what it means in the image,"
                + " as a number from 0 on, the base counted in)");
        for (int base : new int[] {0, 100, 1000000}) {
            Subject x = Scenes.plain(4, 8);
            x.name(0, 1, 3, 0, 0);
            x.name(0, 30, 0, 0, 3);
            x.name(0, 31, 2, 2, 5);
            x.name(1, 32, 1, 0, 8);
            x.name(1, 30, 1, 0, 0);
            x.reference(0, 0, 0, 4, 1, 0);
            x.reference(0, 0, 0, 4, 3, 0);
            x.chooseAll(0, 1);
            check.due(17, () -> x.link(0, base));
            check.due(base, () -> x.nameAt(0));
            check.due(base + 4, () -> x.nameAt(1));
            check.due(base + 3, () -> x.nameAt(30));
            check.due(base + 12, () -> x.nameAt(31));
            check.due(base + 12, () -> x.nameAt(32));
        }
    }

    private static void whereNoNameLies() {
        check.sentence("Promise 12", "NONE when it means nothing that was reached, or there is no image.");
        Subject x = Scenes.plain(4, 4, 4);
        x.name(0, 50, 3, 0, 0);
        x.name(0, 51, 1, 0, 1);
        x.name(1, 51, 2, 0, 6);
        x.name(0, 52, 1, 0, 2);
        x.name(1, 52, 0, 0, 0);
        x.name(0, 53, 1, 0, 3);
        check.due(-1, () -> x.nameAt(0));
        x.chooseAll(0, 1);
        check.due(-1, () -> x.nameAt(0));
        x.link(0, 0);
        check.due(0, () -> x.nameAt(0));
        check.due(3, () -> x.nameAt(53));
        // a section left out; an object not chosen; only wanted; nobody's
        check.due(-1, () -> x.nameAt(1));
        check.due(-1, () -> x.nameAt(2));
        check.due(-1, () -> x.nameAt(50));
        check.due(-1, () -> x.nameAt(77));
        check.due(-1, () -> x.nameAt(Integer.MIN_VALUE));
        check.due(-1, () -> x.nameAt(-1));
        // weak in a reached section, but it means a common, or a strong one, that nobody reaches
        check.due(-1, () -> x.nameAt(51));
        check.due(-1, () -> x.nameAt(52));
        x.choose(0);
        check.unsupported(() -> x.link(50, 0));
        check.due(-1, () -> x.nameAt(0));
    }

    private static void asItWasAtTheLinking() {
        check.sentence("Promise 12", "As it was at the linking, whatever came since (so with placeOf()).");
        Subject x = Scenes.plain(4, 8);
        x.name(0, 1, 3, 0, 0);
        x.name(0, 30, 1, 0, 3);
        x.name(0, 31, 3, 0, 0);
        x.reference(0, 0, 0, 0, 1, 0);
        x.chooseAll(0, 1);
        x.link(0, 100);
        x.name(1, 30, 0, 0, 0);
        x.name(1, 31, 0, 0, 0);
        x.name(1, 33, 0, 0, 0);
        x.section(1, 0, 0, 1);
        x.object();
        x.section(2, 0, 0, 4);
        x.name(2, 34, 0, 0, 0);
        x.write(0);
        x.read(0);
        x.chooseAll(2, 1);
        check.due(103, () -> x.nameAt(30));
        check.due(-1, () -> x.nameAt(31));
        check.due(-1, () -> x.nameAt(33));
        check.due(-1, () -> x.nameAt(34));
        check.due(104, () -> x.nameAt(1));
        check.due(0, () -> x.placeOf(0, 0));
        check.due(4, () -> x.placeOf(1, 0));
        check.due(-1, () -> x.placeOf(1, 1));
        check.due(-1, () -> x.placeOf(2, 0));
        check.due(-1, () -> x.placeOf(3, 0));
        x.link(33, 7);
        check.due(-1, () -> x.placeOf(0, 0));
        check.due(0, () -> x.placeOf(1, 0));
        check.due(-1, () -> x.nameAt(0));
        check.due(7, () -> x.nameAt(31));
    }

    private static void countsOfAll() {
        check.sentence("Promise 17", "Objects (0), chosen (1), the image's length (2), sections in it (3),"
                + " its gaps' bytes (4), commons in it (5), bytes written last (6).");
        Subject x = Scenes.plain(3, 5);
        check.counts(x, 0, 2, 0, 0, 0, 0, 0, 0);
        x.section(1, 3, 2, 6);
        x.name(1, 40, 1, 1, 2);
        x.name(1, 41, 2, 4, 10);
        x.reference(1, 0, 0, 1, 1, 0);
        x.reference(1, 0, 2, 1, 2, 0);
        x.chooseAll(1, 0);
        check.counts(x, 0, 2, 2, 0, 0, 0, 0, 0);
        // 1 to 5 code, 8 to 13 empty, 16 to 25 the common
        x.link(1, 1);
        check.counts(x, 0, 2, 0, 25, 2, 4, 1, 0);
        int many = x.write(0);
        check.counts(x, 0, 2, 0, 25, 2, 4, 1, many);
        x.read(0);
        check.counts(x, 0, 3, 0, 25, 2, 4, 1, many);
        x.choose(2);
        x.link(0, 0);
        check.counts(x, 0, 3, 0, 3, 1, 0, 0, many);
    }

    private static void countsOfTheLatest() {
        check.sentence("Promise 17",
                "Of the latest object its sections (7), names (8), references (9; NONE without an object).");
        Subject x = new Subject();
        check.counts(x, 7, -1, -1, -1);
        x.object();
        check.counts(x, 7, 0, 0, 0);
        x.section(0, 0, 0, 4);
        check.counts(x, 7, 1, 0, 0);
        x.name(0, 1, 0, 0, 0);
        x.name(0, 2, 3, 0, 0);
        check.counts(x, 7, 1, 2, 0);
        for (int i = 0; i < 3; i++) {
            x.reference(0, 0, 0, 0, 0, 0);
        }
        check.counts(x, 7, 1, 2, 3);
        x.object();
        check.counts(x, 7, 0, 0, 0);
        x.section(0, 0, 0, 0);
        check.counts(x, 7, 0, 0, 0);
        x.write(0);
        x.read(0);
        check.counts(x, 7, 2, 2, 3);
    }

    private static void countOfAnotherWhat() {
        check.sentence("Promise 17", "NONE for another what.");
        Subject x = Scenes.lively();
        for (int what : new int[] {Integer.MIN_VALUE, -1, 10, 16, Integer.MAX_VALUE}) {
            check.due(-1, () -> x.count(what));
        }
        check.due(2, () -> x.count(0));
        check.due(1, () -> x.count(9));
        Subject fresh = new Subject();
        check.due(-1, () -> fresh.count(-1));
        check.due(-1, () -> fresh.count(10));
    }
}
