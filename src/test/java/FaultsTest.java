/** What 'Terms' says of the FAULTS, their order, and what tells them, sentence by sentence. */
public final class FaultsTest {
    private static final Check check = new Check("FaultsTest");

    public static void main(String[] args) {
        ownBytesOutside();
        meantAtTheEnd();
        firstInOrder();
        doubled();
        missingEntry();
        missingReference();
        asTheyCome();
        severalOfOneReference();
        byObjects();
        tooLong();
        tooLongBySections();
        tooLongByGaps();
        check.end();
    }

    private static void ownBytesOutside() {
        check.sentence("Terms", "One whose own bytes do not lie in its section is OUTSIDE");
        int[] widths = {4, 2, 2, 1, 2};
        for (int length : new int[] {0, 1, 2, 3, 4, 5, 128}) {
            for (int way = 0; way < 5; way++) {
                for (int place = Math.max(0, length - 5); place <= length; place++) {
                    Subject x = Scenes.plain(length);
                    x.reference(0, 0, place, way, 0, way == 3 ? place : 0);
                    // the entry's section lies behind, so that the image has bytes there
                    x.section(0, 1, 0, 8);
                    x.name(0, 1, 0, 1, 0);
                    x.reference(0, 1, 0, 0, 0, 0);
                    x.choose(0);
                    boolean outside = place + widths[way] > length;
                    check.due(outside ? 3 : 0, () -> Scenes.faultOfLink(x, 1, 0));
                    check.fault(x, outside ? 3 : 0, outside ? 0 : -1, outside ? 0 : -1);
                }
            }
        }
    }

    private static void meantAtTheEnd() {
        check.sentence("Terms", "(what it means may stand at a section's end)");
        Subject x = Scenes.plain(4, 0);
        x.name(0, 9, 0, 0, 4);
        x.name(0, 1, 3, 0, 0);
        x.reference(0, 0, 0, 1, 1, 0);
        x.reference(0, 0, 2, 1, 2, 1);
        x.chooseAll(0, 1);
        check.due(4, () -> x.link(9, 0));
        check.image(x, 0, 0, 4, 0, 5);
        check.due(4, () -> x.nameAt(9));
        check.due(4, () -> x.nameAt(1));
    }

    /** 24 bytes and four commons, 4096 bytes together, with the faults that are asked for put in. */
    private static Subject faulty(boolean doubled, boolean missing, boolean tooLong, int late) {
        Subject x = Scenes.plain(24, 4);
        if (late == 3) {
            x.reference(0, 0, 24, 0, 0, 0);
        } else if (late == 4) {
            x.reference(0, 0, 0, 3, 0, 1);
        } else if (late == 5) {
            x.reference(0, 0, 0, 1, 0, -1);
        }
        for (int i = 0; i < 4; i++) {
            x.name(0, 100 + i, 2, 0, i < 3 ? 1024 : tooLong ? 1001 : 1000);
            x.reference(0, 0, 0, 0, 1 + i, 0);
        }
        x.name(0, 77, 3, 0, 0);
        if (missing) {
            x.reference(0, 0, 0, 0, 5, 0);
        }
        if (doubled) {
            x.name(1, 0, 0, 0, 0);
        }
        x.chooseAll(0, 1);
        return x;
    }

    private static void firstInOrder() {
        check.sentence("Terms", "FAULTS, the first one in this order: 1 DOUBLED");
        for (int late : new int[] {0, 3, 4, 5}) {
            for (int bits = 0; bits < 8; bits++) {
                boolean doubled = (bits & 1) != 0;
                boolean missing = (bits & 2) != 0;
                boolean tooLong = (bits & 4) != 0;
                Subject x = faulty(doubled, missing, tooLong, late);
                int want = doubled ? 1 : missing ? 2 : tooLong ? 6 : late;
                check.due(want, () -> Scenes.faultOfLink(x, 0, 0));
                check.due(want == 0 ? 4096 : 0, () -> x.count(2));
                // an entry that is missing comes at the same place as a reference
                Subject y = faulty(doubled, missing, tooLong, late);
                check.due(doubled ? 1 : 2, () -> Scenes.faultOfLink(y, 77, 0));
            }
        }
    }

    private static void doubled() {
        check.sentence("Terms", "1 DOUBLED (told by the object and the name's number in its list: the second strong one,"
                + " by objects and lists)");
        Subject x = Scenes.objects(3);
        for (int i = 0; i < 3; i++) {
            x.section(i, 0, 0, 1);
        }
        x.name(0, 1, 0, 0, 0);
        x.name(0, 2, 0, 0, 0);
        x.name(1, 5, 3, 0, 0);
        x.name(1, 2, 0, 0, 0);
        x.name(1, 1, 0, 0, 0);
        x.name(2, 5, 0, 0, 0);
        x.name(2, 6, 1, 0, 0);
        x.name(2, 7, 2, 0, 1);
        x.name(2, 1, 0, 0, 0);
        int[][] ordersAndTellers = {
            {0, 1, 2, 1, 1}, {1, 0, 2, 0, 0}, {2, 1, 0, 1, 2}, {0, 2, 1, 2, 3}, {2, 0, 1, 0, 0}, {1, 2, 0, 2, 3},
        };
        for (int[] row : ordersAndTellers) {
            x.chooseAll(row[0], row[1], row[2]);
            check.unsupported(() -> x.link(6, 0));
            check.fault(x, 1, row[3], row[4]);
        }
        x.choose(2);
        check.due(1, () -> x.link(6, 0));
        check.fault(x, 0, -1, -1);
    }

    private static void missingEntry() {
        check.sentence("Terms", "2 MISSING (by the entry: object NONE, the entry's number");
        Subject x = Scenes.plain(4, 4);
        x.name(0, 60, 3, 0, 0);
        x.reference(0, 0, 0, 0, 1, 0);
        for (int entry : new int[] {60, 1, 77, -1, Integer.MIN_VALUE, Integer.MAX_VALUE}) {
            x.choose(0);
            check.unsupported(() -> x.link(entry, 0));
            check.fault(x, 2, -1, entry);
        }
        x.chooseAll(0, 1);
        check.due(4, () -> x.link(1, 0));
    }

    private static void missingReference() {
        check.sentence("Terms", "else by the first such reference of reached sections: object and reference)");
        Subject x = Scenes.plain(8, 8);
        x.name(0, 1, 3, 0, 0);
        x.name(0, 60, 3, 0, 0);
        x.name(0, 61, 3, 0, 0);
        x.name(1, 60, 3, 0, 0);
        x.section(0, 0, 0, 8);
        x.reference(0, 1, 0, 0, 2, 0);
        x.reference(0, 0, 8, 0, 1, 0);
        x.reference(0, 0, 0, 0, 3, 0);
        x.reference(0, 0, 0, 0, 2, 0);
        x.reference(1, 0, 0, 0, 0, 0);
        x.reference(1, 0, 0, 0, 1, 0);
        x.chooseAll(0, 1);
        check.unsupported(() -> x.link(0, 0));
        check.fault(x, 2, 0, 2);
        x.chooseAll(1, 0);
        check.unsupported(() -> x.link(0, 0));
        check.fault(x, 2, 1, 1);
        x.chooseAll(0, 1);
        check.unsupported(() -> x.link(1, 0));
        check.fault(x, 2, 1, 1);
        // what is not chosen is missing, too
        x.choose(0);
        check.unsupported(() -> x.link(0, 0));
        check.fault(x, 2, 0, 1);
    }

    private static void addFault(Subject x, int fault) {
        x.reference(0, 0, fault == 3 ? 8 : 4, fault == 5 ? 1 : 3, 0, fault == 5 ? -1 : 1);
    }

    private static void asTheyCome() {
        check.sentence("Terms", "3 OUTSIDE, 4 CROOKED, 5 OUT OF RANGE (by object and reference; 3 to 5 as they come,"
                + " reference by reference)");
        int[][] orders = {{3, 4, 5}, {3, 5, 4}, {4, 3, 5}, {4, 5, 3}, {5, 3, 4}, {5, 4, 3}, {3}, {4}, {5}};
        for (int[] order : orders) {
            for (int good = 0; good <= 2; good++) {
                Subject x = Scenes.plain(8);
                for (int i = 0; i < good; i++) {
                    x.reference(0, 0, 0, 0, 0, 0);
                }
                for (int fault : order) {
                    addFault(x, fault);
                }
                x.choose(0);
                check.unsupported(() -> x.link(0, 0));
                check.fault(x, order[0], 0, good);
            }
        }
    }

    private static void severalOfOneReference() {
        check.sentence("Terms", "FAULTS, the first one in this order");
        int[][] rows = {
            // place, way, addend, fault
            {8, 3, 1, 3}, {8, 3, 8 + 4 * 128, 3}, {7, 1, -1, 3}, {7, 2, 40000, 3}, {8, 3, 8 + 4 * 128 + 1, 3},
            {7, 3, 7 + 4 * 128 + 1, 4}, {7, 3, 7 + 4 * 128, 5}, {6, 1, -1, 5}, {6, 2, 40000, 5},
        };
        for (int[] row : rows) {
            Subject x = Scenes.plain(8);
            x.reference(0, 0, row[0], row[1], 0, row[2]);
            x.choose(0);
            check.unsupported(() -> x.link(0, 0));
            check.fault(x, row[3], 0, 0);
        }
    }

    private static void byObjects() {
        check.sentence("Terms", "(by object and reference; 3 to 5 as they come, reference by reference)");
        Subject x = Scenes.plain(8, 8);
        x.name(0, 1, 3, 0, 0);
        x.name(1, 0, 3, 0, 0);
        x.reference(0, 0, 0, 0, 1, 0);
        x.reference(0, 0, 4, 1, 1, -100);
        x.reference(0, 0, 8, 0, 0, 0);
        x.reference(1, 0, 0, 0, 1, 0);
        x.reference(1, 0, 0, 0, 1, 0);
        x.reference(1, 0, 2, 3, 1, 1);
        for (int entry = 0; entry <= 1; entry++) {
            int asked = entry;
            x.chooseAll(0, 1);
            check.unsupported(() -> x.link(asked, 0));
            check.fault(x, 5, 0, 1);
            x.chooseAll(1, 0);
            check.unsupported(() -> x.link(asked, 0));
            check.fault(x, 4, 1, 2);
        }
    }

    private static void tooLong() {
        check.sentence("Terms", "6 the image would be longer than 4096 bytes (asked ahead of 3; object and number NONE).");
        Subject x = faulty(false, false, false, 0);
        check.due(4096, () -> x.link(0, 1000000));
        check.fault(x, 0, -1, -1);
        check.image(x, 4095, 0);
        check.index(() -> x.image(4096));
        Subject y = faulty(false, false, true, 0);
        check.unsupported(() -> y.link(0, 1000000));
        check.fault(y, 6, -1, -1);
        check.counts(y, 1, 0, 0, 0, 0, 0);
        check.index(() -> y.image(0));
        check.due(-1, () -> y.placeOf(0, 0));
        check.due(-1, () -> y.nameAt(100));
        // the next linking works again
        y.choose(1);
        check.due(4, () -> y.link(1, 0));
        check.fault(y, 0, -1, -1);
        // as long as it can be
        Subject most = Scenes.plain(128);
        for (int i = 0; i < 11; i++) {
            most.name(0, 100 + i, 2, 6, 1024);
            most.reference(0, 0, 0, 0, 1 + i, 0);
        }
        most.choose(0);
        check.unsupported(() -> most.link(0, 1000000));
        check.fault(most, 6, -1, -1);
    }

    /** Four objects of eight full sections are 4096 bytes; a fifth has one section more. */
    private static Subject fullSections(int lastLength) {
        Subject x = Scenes.objects(5);
        x.section(4, 3, 0, lastLength);
        x.name(4, 400, 0, 0, 0);
        for (int o = 0; o < 4; o++) {
            for (int s = 0; s < 8; s++) {
                x.section(o, s % 4, 0, 128);
                x.name(o, 100 * o + s, 0, s, 0);
            }
            x.name(o, 100 * (o + 1), 3, 0, 0);
            for (int n = 1; n < 9; n++) {
                x.reference(o, 0, 0, 0, n, 0);
            }
            x.bytes(o, 6, 124, 0x01020304);
        }
        x.chooseAll(0, 1, 2, 3, 4);
        return x;
    }

    private static void tooLongBySections() {
        check.sentence("Terms", "6 the image would be longer than 4096 bytes");
        Subject x = fullSections(0);
        check.due(4096, () -> x.link(0, 3));
        check.counts(x, 2, 4096, 33, 0, 0);
        check.due(4096, () -> x.placeOf(4, 0));
        check.due(4096 - 128, () -> x.placeOf(3, 7));
        check.image(x, 24 * 128 - 4, 1, 2, 3, 4);
        Subject y = fullSections(1);
        check.unsupported(() -> y.link(0, 3));
        check.fault(y, 6, -1, -1);
    }

    private static void tooLongByGaps() {
        check.sentence("Terms", "6 the image would be longer than 4096 bytes");
        for (int base = 0; base <= 3; base++) {
            int from = base;
            Subject x = Scenes.objects(1);
            x.section(0, 0, 6, 64);
            x.name(0, 0, 0, 0, 0);
            for (int i = 0; i < 4; i++) {
                x.name(0, 100 + i, 2, 0, i < 3 ? 1024 : 1024 - 64 - 62);
                x.reference(0, 0, 0, 0, 1 + i, 0);
            }
            x.choose(0);
            // the gap from the base on is 0, 63, 62, 61
            if (base == 1) {
                check.unsupported(() -> x.link(0, from));
                check.fault(x, 6, -1, -1);
            } else {
                int gap = base == 0 ? 0 : 64 - base;
                check.due(4096 - 62 + gap, () -> x.link(0, from));
                check.due(gap, () -> x.count(4));
            }
        }
    }
}
