/** What 'Terms' says of LINKING but for the faults, sentence by sentence. */
public final class LinkingTest {
    private static final Check check = new Check("LinkingTest");

    public static void main(String[] args) {
        asChosen();
        oneStrong();
        strongFirst();
        thenCommon();
        greatestOfCommons();
        thenFirstWeak();
        weakOrCommonMeansStrong();
        elseMissing();
        reachedSections();
        reachedInRings();
        reachedCommons();
        leftOut();
        missingUntold();
        kindsInOrder();
        byObjectsThenNumbers();
        nextPlaceOfAlignment();
        sectionsOfNoBytes();
        commonsBehind();
        gapsAreZero();
        workedInByNumber();
        unreachedAreNotWorkedIn();
        check.end();
    }

    private static void asChosen() {
        check.sentence("Terms", "LINKING takes objects as they were chosen, in that order (\"by objects\"),"
                + " and has an ENTRY, a name's number.");
        Subject x = Scenes.plain(1, 2, 3);
        for (int i = 0; i < 3; i++) {
            x.name(i, (i + 1) % 3, 3, 0, 0);
            x.section(i, 1, 0, 4);
            x.name(i, 10 + i, 0, 1, 0);
            x.reference(i, 1, 0, 0, 1, 0);
            x.reference(i, 1, 0, 0, 0, 0);
        }
        x.name(0, 11, 3, 0, 0);
        x.reference(0, 1, 0, 0, 3, 0);
        int[][] orders = {{0, 1, 2}, {2, 1, 0}, {1, 2, 0}};
        for (int[] order : orders) {
            x.chooseAll(order);
            // the entry reaches sections 1 of objects 0 and 1, and by them sections 0 of all
            check.due(1 + 2 + 3 + 4 + 4, () -> x.link(10, 0));
            check.due(0, () -> x.placeOf(order[0], 0));
            check.due(order[0] + 1, () -> x.placeOf(order[1], 0));
            check.due(order[0] + order[1] + 2, () -> x.placeOf(order[2], 0));
        }
        // the same objects with another entry
        x.chooseAll(0, 1, 2);
        check.due(3, () -> x.link(2, 0));
    }

    /** Name 5000 is strong in objects 1 and 2, and weak, common and wanted in 3, 4 and 0. */
    private static Subject fives() {
        Subject x = Scenes.plain(4, 16, 16, 16, 16, 16);
        x.name(0, 5000, 3, 0, 0);
        x.reference(0, 0, 0, 0, 1, 0);
        x.name(1, 5000, 0, 0, 11);
        x.name(2, 5000, 0, 0, 12);
        x.name(3, 5000, 1, 0, 13);
        x.name(4, 5000, 2, 0, 14);
        x.name(5, 5000, 1, 0, 15);
        return x;
    }

    private static void oneStrong() {
        check.sentence("Terms", "of the strong ones of a name (in chosen objects) there may be one; DOUBLED else.");
        Subject x = fives();
        x.chooseAll(0, 1);
        check.due(20, () -> x.link(0, 0));
        x.chooseAll(0, 2);
        check.due(20, () -> x.link(0, 0));
        x.chooseAll(0, 1, 2);
        check.unsupported(() -> x.link(0, 0));
        check.fault(x, 1, 2, 1);
        x.chooseAll(0, 3, 4, 5);
        check.due(18, () -> x.link(0, 0));
        // nobody needs to reach them
        x.chooseAll(3, 2, 1);
        check.unsupported(() -> x.link(3, 0));
        check.fault(x, 1, 1, 1);
    }

    private static void strongFirst() {
        check.sentence("Terms", "A wanted name, or one in a reference, means: the strong one");
        int[][] orders = {{0, 1, 3, 4, 5}, {5, 4, 3, 1, 0}, {3, 0, 1, 4, 5}, {4, 1, 3, 0}, {0, 1}};
        for (int[] order : orders) {
            Subject x = fives();
            x.chooseAll(order);
            check.due(20, () -> x.link(0, 100));
            check.due(x.placeOf(1, 0) + 100 + 11, () -> x.nameAt(5000));
            check.image(x, x.placeOf(0, 0), 0, 0, 0, x.nameAt(5000));
            check.counts(x, 3, 2, 0, 0);
            x.chooseAll(order);
            check.due(16, () -> x.link(5000, 0));
            check.due(11, () -> x.nameAt(5000));
        }
    }

    private static void thenCommon() {
        check.sentence("Terms", "else a common one");
        int[][] orders = {{0, 3, 4, 5}, {5, 4, 3, 0}, {3, 0, 5, 4}, {4, 0}};
        for (int[] order : orders) {
            Subject x = fives();
            x.chooseAll(order);
            check.due(4 + 14, () -> x.link(0, 100));
            check.due(104, () -> x.nameAt(5000));
            check.image(x, 0, 0, 0, 0, 104);
            check.counts(x, 3, 1, 0, 1);
        }
    }

    private static void greatestOfCommons() {
        check.sentence("Terms", "of all commons of the name together the greatest size and the greatest alignment");
        Subject x = Scenes.objects(4);
        x.name(0, 5, 2, 1, 10);
        x.name(1, 5, 2, 4, 3);
        x.name(2, 5, 2, 0, 12);
        x.name(3, 5, 2, 6, 1024);
        int[][] orders = {{0, 1, 2}, {2, 1, 0}, {1, 0, 2}};
        for (int[] order : orders) {
            x.chooseAll(order);
            check.due(15 + 12, () -> x.link(5, 1));
            check.due(16, () -> x.nameAt(5));
            check.counts(x, 2, 27, 0, 15, 1);
        }
        // only those of chosen objects, and none of the linking before
        x.chooseAll(0, 2);
        check.due(1 + 12, () -> x.link(5, 1));
        x.chooseAll(3, 0);
        check.due(63 + 1024, () -> x.link(5, 1));
        x.choose(0);
        check.due(1 + 10, () -> x.link(5, 1));
        // a strong one takes their size and alignment away
        x.object();
        x.section(4, 0, 0, 2);
        x.name(4, 5, 0, 0, 0);
        x.chooseAll(0, 4, 1);
        check.due(2, () -> x.link(5, 1));
    }

    private static void thenFirstWeak() {
        check.sentence("Terms", "else the first weak one (by objects, then in their lists).");
        int[][] orders = {{0, 3, 5}, {0, 5, 3}, {5, 0, 3}, {3, 5, 0}, {5, 0}};
        for (int[] order : orders) {
            Subject x = fives();
            int first = order[0] == 0 ? order[1] : order[0];
            x.chooseAll(order);
            check.due(20, () -> x.link(0, 0));
            check.due(x.placeOf(first, 0) + 10 + first, () -> x.nameAt(5000));
            check.due(-1, () -> x.nameAt(8 - first));
        }
    }

    private static void weakOrCommonMeansStrong() {
        check.sentence("Terms", "(A weak or common one means the strong one, too; a weak one a common one,"
                + " if there is no strong one.)");
        Subject x = fives();
        // object 3 refers to its own weak name, object 4 to its own common one
        x.reference(3, 0, 0, 0, 1, 0);
        x.reference(4, 0, 0, 0, 1, 0);
        x.choose(3);
        check.due(16, () -> x.link(3, 0));
        check.image(x, 0, 0, 0, 0, 13);
        x.chooseAll(3, 4);
        check.due(16 + 14, () -> x.link(3, 0));
        check.image(x, 0, 0, 0, 0, 16);
        x.chooseAll(3, 4, 1);
        check.due(16 + 16, () -> x.link(3, 0));
        check.image(x, 0, 0, 0, 0, 16 + 11);
        x.chooseAll(3, 1);
        check.due(16 + 16, () -> x.link(3, 0));
        check.image(x, 0, 0, 0, 0, 16 + 11);
        x.choose(4);
        check.due(16 + 14, () -> x.link(4, 0));
        check.image(x, 0, 0, 0, 0, 16);
        x.chooseAll(1, 4);
        check.due(16 + 16, () -> x.link(4, 0));
        check.image(x, 16, 0, 0, 0, 11);
    }

    private static void elseMissing() {
        check.sentence("Terms", "Else it is MISSING.");
        Subject x = fives();
        x.choose(0);
        check.unsupported(() -> x.link(0, 0));
        check.fault(x, 2, 0, 0);
        x.choose(0);
        check.unsupported(() -> x.link(5000, 0));
        check.fault(x, 2, -1, 5000);
        for (int other = 1; other <= 5; other++) {
            x.chooseAll(0, other);
            check.due(other == 4 ? 18 : 20, () -> x.link(0, 0));
        }
    }

    private static void reachedSections() {
        check.sentence("Terms", "2 REACHED: the section of the entry's meaning; then the sections that the references"
                + " of a reached one mean.");
        Subject x = Scenes.plain(4, 4, 4, 4);
        x.section(0, 0, 0, 4);
        for (int i = 0; i < 3; i++) {
            x.name(i, i + 1, 3, 0, 0);
        }
        x.reference(0, 0, 0, 0, 1, 0);
        x.reference(1, 0, 0, 0, 1, 0);
        x.reference(0, 1, 0, 0, 1, 0);
        int[][] entriesAndLengths = {{0, 12}, {1, 8}, {2, 4}, {3, 4}};
        for (int[] row : entriesAndLengths) {
            x.chooseAll(3, 2, 1, 0);
            check.due(row[1], () -> x.link(row[0], 0));
            check.due(row[1] / 4, () -> x.count(3));
            check.due(-1, () -> x.placeOf(0, 1));
        }
        // the place of the name in its section does not matter
        x.name(3, 30, 0, 0, 4);
        x.choose(3);
        check.due(4, () -> x.link(30, 0));
        check.due(0, () -> x.placeOf(3, 0));
    }

    private static void reachedInRings() {
        check.sentence("Terms", "then the sections that the references of a reached one mean.");
        Subject self = Scenes.plain(4);
        self.reference(0, 0, 0, 0, 0, 0);
        self.choose(0);
        check.due(4, () -> self.link(0, 0));
        Subject x = Scenes.plain(4, 4, 4, 4, 4, 4, 4, 4, 4, 4, 4, 4);
        for (int i = 0; i < 12; i++) {
            x.name(i, (i + 5) % 12, 3, 0, 0);
            x.reference(i, 0, 0, 0, 1, 0);
            x.choose(i);
        }
        check.due(48, () -> x.link(7, 0));
        for (int i = 0; i < 12; i++) {
            check.image(x, 4 * i, 0, 0, 0, 4 * ((i + 5) % 12));
        }
        reachesAllThatCanBe();
    }

    /** Twelve objects of eight sections, a ring through all 96. */
    private static void reachesAllThatCanBe() {
        Subject x = Scenes.objects(12);
        for (int o = 0; o < 12; o++) {
            for (int s = 0; s < 8; s++) {
                x.section(o, s % 3, 0, 4);
                x.name(o, 100 * o + s, 0, s, 0);
            }
            x.name(o, 100 * ((o + 1) % 12), 3, 0, 0);
            for (int s = 0; s < 8; s++) {
                x.reference(o, s, 0, 0, s + 1, 0);
            }
            x.choose(o);
        }
        check.due(96 * 4, () -> x.link(507, 0));
        check.due(96, () -> x.count(3));
        check.due(0, () -> x.nameAt(0));
        check.due(x.placeOf(11, 7), () -> x.nameAt(1107));
    }

    private static void reachedCommons() {
        check.sentence("Terms", "A common is reached by its name.");
        Subject x = Scenes.plain(4, 4);
        x.name(0, 40, 2, 0, 6);
        x.name(0, 41, 2, 0, 7);
        x.name(1, 40, 3, 0, 0);
        x.reference(1, 0, 0, 0, 1, 0);
        x.chooseAll(0, 1);
        check.due(4 + 6, () -> x.link(1, 0));
        check.counts(x, 3, 1, 0, 1);
        check.due(4, () -> x.nameAt(40));
        check.due(-1, () -> x.nameAt(41));
        x.chooseAll(0, 1);
        check.due(7, () -> x.link(41, 0));
        check.counts(x, 3, 0, 0, 1);
        check.due(0, () -> x.nameAt(41));
        check.due(-1, () -> x.nameAt(40));
    }

    private static void leftOut() {
        check.sentence("Terms", "Others are left out.");
        Subject x = Scenes.plain(4, 4);
        x.section(0, 3, 0, 9);
        x.section(0, 2, 6, 9);
        x.name(0, 20, 2, 6, 9);
        x.chooseAll(1, 0);
        check.due(4, () -> x.link(0, 0));
        check.counts(x, 2, 4, 1, 0, 0);
        check.due(0, () -> x.placeOf(0, 0));
        check.due(-1, () -> x.placeOf(0, 1));
        check.due(-1, () -> x.placeOf(0, 2));
        check.due(-1, () -> x.placeOf(1, 0));
        check.due(-1, () -> x.nameAt(20));
    }

    private static void missingUntold() {
        check.sentence("Terms", "A name that is missing is told only if it is the entry, or a reached section has"
                + " a reference to it.");
        Subject x = Scenes.plain(4);
        x.name(0, 60, 3, 0, 0);
        x.section(0, 0, 0, 4);
        x.name(0, 61, 0, 1, 0);
        x.reference(0, 1, 0, 0, 1, 0);
        x.choose(0);
        check.due(4, () -> x.link(0, 0));
        x.choose(0);
        check.unsupported(() -> x.link(60, 0));
        check.fault(x, 2, -1, 60);
        x.choose(0);
        check.unsupported(() -> x.link(61, 0));
        check.fault(x, 2, 0, 0);
    }

    /** Sections of these kinds and powers, each of 3 bytes but the first, a CODE one that refers to all. */
    private static Subject referringToAll(int... kindsAndPowers) {
        Subject x = Scenes.plain(4);
        for (int i = 0; i < kindsAndPowers.length / 2; i++) {
            x.section(0, kindsAndPowers[2 * i], kindsAndPowers[2 * i + 1], 3);
            x.name(0, 10 + i, 0, i + 1, 0);
            x.reference(0, 0, 0, 0, i + 1, 0);
        }
        x.choose(0);
        return x;
    }

    private static void kindsInOrder() {
        check.sentence("Terms", "3 ORDER: from a BASE on, kinds 0, 1, 2, 3");
        Subject x = referringToAll(3, 0, 2, 0, 1, 0, 0, 0, 1, 0, 3, 0, 2, 0);
        check.due(4 + 7 * 3, () -> x.link(0, 50));
        int[] places = {0, 4 + 5 * 3, 4 + 3 * 3, 4 + 3, 4, 4 + 2 * 3, 4 + 6 * 3, 4 + 4 * 3};
        for (int i = 0; i < places.length; i++) {
            int section = i;
            check.due(places[i], () -> x.placeOf(0, section));
        }
        check.due(50 + 4 + 5 * 3, () -> x.nameAt(10));
    }

    private static void byObjectsThenNumbers() {
        check.sentence("Terms", "in a kind the sections by objects, then by number");
        Subject x = Scenes.objects(2);
        for (int o = 0; o < 2; o++) {
            x.section(o, 2, 0, 8);
            x.section(o, 1, 0, 3);
            x.section(o, 2, 0, 3);
            x.section(o, 1, 0, 3);
            for (int n = 0; n < 4; n++) {
                x.name(o, 10 * o + n, 0, 3 - n, 0);
            }
            x.name(o, 10 * (1 - o) + 3, 3, 0, 0);
            for (int n = 0; n < 5; n++) {
                x.reference(o, 0, 0, 0, n, 0);
            }
        }
        for (int first = 0; first < 2; first++) {
            int a = first;
            int b = 1 - first;
            x.chooseAll(a, b);
            check.due(2 * 17, () -> x.link(3, 0));
            check.due(0, () -> x.placeOf(a, 1));
            check.due(3, () -> x.placeOf(a, 3));
            check.due(6, () -> x.placeOf(b, 1));
            check.due(9, () -> x.placeOf(b, 3));
            check.due(12, () -> x.placeOf(a, 0));
            check.due(20, () -> x.placeOf(a, 2));
            check.due(23, () -> x.placeOf(b, 0));
            check.due(31, () -> x.placeOf(b, 2));
        }
    }

    private static void nextPlaceOfAlignment() {
        check.sentence("Terms", "each begins at the next place that its alignment divides");
        for (int power = 0; power <= 6; power++) {
            int step = 1 << power;
            for (int base : new int[] {0, 1, 60, 63, 64, 65, 999997, 1000000}) {
                Subject x = referringToAll(1, power, 2, power);
                int first = (base + 4 + step - 1) / step * step;
                int second = (first + 3 + step - 1) / step * step;
                check.due(second + 3 - base, () -> x.link(0, base));
                check.due(first - base, () -> x.placeOf(0, 1));
                check.due(second - base, () -> x.placeOf(0, 2));
                check.due(first - base - 4 + second - first - 3, () -> x.count(4));
            }
        }
    }

    private static void sectionsOfNoBytes() {
        check.sentence("Terms", "each begins at the next place that its alignment divides");
        Subject x = Scenes.plain(1);
        x.section(0, 1, 3, 0);
        x.name(0, 10, 0, 1, 0);
        x.reference(0, 0, 0, 3, 1, 0);
        x.choose(0);
        check.due(8, () -> x.link(0, 0));
        check.due(8, () -> x.placeOf(0, 1));
        check.counts(x, 2, 8, 2, 7, 0);
        check.image(x, 0, 2, 0, 0, 0, 0, 0, 0, 0);
        check.index(() -> x.image(8));
        x.choose(0);
        check.due(1, () -> x.link(10, 7));
        check.due(1, () -> x.placeOf(0, 1));
        check.image(x, 0, 0);
        x.choose(0);
        check.due(0, () -> x.link(10, 8));
        check.index(() -> x.image(0));
    }

    private static void commonsBehind() {
        check.sentence("Terms", "behind the EMPTY ones the commons, by their first coming in the chosen objects' lists"
                + " (the first, by objects and lists, that is common), likewise.");
        Subject x = Scenes.plain(16, 1);
        x.name(0, 20, 3, 0, 0);
        x.name(0, 21, 1, 0, 0);
        x.name(0, 22, 2, 1, 2);
        x.name(1, 21, 2, 0, 4);
        x.name(1, 20, 2, 3, 8);
        x.name(1, 22, 2, 0, 3);
        x.section(1, 3, 2, 5);
        x.name(1, 30, 0, 1, 0);
        x.name(0, 30, 3, 0, 0);
        for (int n = 4; n >= 1; n--) {
            x.reference(0, 0, 4 * n - 4, 0, n, 0);
        }
        x.chooseAll(0, 1);
        check.due(40, () -> x.link(0, 0));
        check.due(16, () -> x.nameAt(30));
        // 21 is weak at first and 20 wanted: they come as commons behind 22
        check.due(22, () -> x.nameAt(22));
        check.due(25, () -> x.nameAt(21));
        check.due(32, () -> x.nameAt(20));
        check.counts(x, 3, 2, 1 + 3, 3);
        x.chooseAll(1, 0);
        check.due(43, () -> x.link(0, 0));
        check.due(21, () -> x.nameAt(21));
        check.due(32, () -> x.nameAt(20));
        check.due(40, () -> x.nameAt(22));
        // without an EMPTY section, behind the last other one
        Subject y = Scenes.plain(5);
        y.name(0, 40, 2, 2, 1);
        y.reference(0, 0, 0, 0, 1, 0);
        y.choose(0);
        check.due(9, () -> y.link(0, 0));
        check.due(8, () -> y.nameAt(40));
    }

    private static void gapsAreZero() {
        check.sentence("Terms", "Gaps (also from the base to the first of them) are bytes 0.");
        Subject x = Scenes.plain(128);
        for (int at = 0; at < 128; at += 4) {
            x.bytes(0, 0, at, -1);
        }
        x.object();
        x.section(1, 0, 3, 2);
        x.section(1, 2, 4, 2);
        x.bytes(1, 0, 0, -1);
        x.bytes(1, 1, 0, -1);
        x.name(1, 10, 0, 0, 0);
        x.name(1, 11, 0, 1, 0);
        x.name(1, 12, 2, 3, 2);
        x.reference(1, 0, 0, 1, 1, 65535 - 16);
        x.reference(1, 1, 0, 1, 2, 65535 - 24);
        x.choose(0);
        check.due(128, () -> x.link(0, 0));
        check.image(x, 0, 255);
        x.choose(1);
        // 3 to 7 a gap, 8 code, 10 to 15 a gap, 16 data, 18 to 23 a gap, 24 the common
        check.due(26 - 3, () -> x.link(10, 3));
        check.image(x, 0, 0, 0, 0, 0, 0, 255, 255, 0, 0, 0, 0, 0, 0, 255, 255, 0, 0, 0, 0, 0, 0, 0, 0);
        check.counts(x, 2, 23, 2, 5 + 6 + 6, 1);
    }

    private static void workedInByNumber() {
        check.sentence("Terms", "4 WORKED IN: the references of reached sections, by objects, then by number.");
        Subject x = Scenes.plain(4);
        x.bytes(0, 0, 0, 0x61626364);
        x.reference(0, 0, 0, 0, 0, 0x01020304);
        x.reference(0, 0, 1, 1, 0, 0x0506);
        x.reference(0, 0, 2, 1, 0, 0x0708);
        x.choose(0);
        x.link(0, 0);
        check.image(x, 0, 1, 5, 7, 8);
        // the object keeps its own bytes
        x.write(0);
        check.written(x, 9, 0x61, 0x62, 0x63, 0x64);
        x.choose(0);
        x.link(0, 0);
        check.image(x, 0, 1, 5, 7, 8);
    }

    private static void unreachedAreNotWorkedIn() {
        check.sentence("Terms", "4 WORKED IN: the references of reached sections");
        Subject x = Scenes.plain(4);
        x.bytes(0, 0, 0, 0x61626364);
        x.section(0, 0, 0, 4);
        x.name(0, 10, 0, 1, 0);
        x.reference(0, 1, 0, 0, 0, -1);
        x.reference(0, 1, 4, 0, 0, 0);
        x.reference(0, 1, 0, 3, 1, 1);
        x.reference(0, 1, 0, 1, 1, -1);
        x.choose(0);
        check.due(4, () -> x.link(0, 0));
        check.image(x, 0, 0x61, 0x62, 0x63, 0x64);
        x.choose(0);
        check.unsupported(() -> x.link(10, 0));
        check.fault(x, 3, 0, 1);
    }
}
