/** Promises 13 to 16, sentence by sentence: write, written, alter, read. */
public final class WrittenTest {
    private static final int[] SAMPLE = {
        79, 66, 2, 4, 1,
        2, 5, 0, 3, 0x80, 0xFF, 1,
        3, 6, 0, 128,
        0x81, 2, 3, 4, 0, 1, 0, 128,
        255, 255, 255, 255, 1, 0, 0, 3,
        0, 0, 0, 7, 2, 6, 4, 0,
        0, 0, 0, 8, 3, 0, 0, 0,
        0, 0, 2, 4, 3, 255, 255, 255, 254,
    };

    private static final Check check = new Check("WrittenTest");

    public static void main(String[] args) {
        howManyAreWritten();
        writtenBytes();
        noSuchWrittenByte();
        anotherByte();
        alterNoSuchByte();
        alterToNoByte();
        readAsItIsNow();
        cuts();
        nothingWrittenYet();
        noObjectAsBytes();
        everyByteCounts();
        sectionsThatSectionRefuses();
        namesThatNameRefuses();
        referencesThatReferenceRefuses();
        twelveAskedLast();
        check.end();
    }

    private static Subject sample() {
        Subject x = new Subject();
        x.object();
        x.section(0, 2, 5, 3);
        x.section(0, 3, 6, 128);
        x.bytes(0, 0, 0, 0x80FF0100);
        x.name(0, 0x81020304, 0, 1, 128);
        x.name(0, -1, 1, 0, 3);
        x.name(0, 7, 2, 6, 1024);
        x.name(0, 8, 3, 0, 0);
        x.reference(0, 0, 2, 4, 3, -2);
        return x;
    }

    private static void howManyAreWritten() {
        check.sentence("Promise 13", "Writes an object as bytes: how many.");
        Subject x = sample();
        check.due(SAMPLE.length + 2, () -> x.write(0));
        check.allWritten(x, Packed.withSum(SAMPLE));
        x.object();
        check.due(7, () -> x.write(1));
        check.allWritten(x, Packed.withSum(79, 66, 0, 0, 0));
        check.index(() -> x.write(2), () -> x.write(-1));
        check.due(7, () -> x.count(6));
        check.due(SAMPLE.length + 2, () -> x.write(0));
        check.allWritten(x, Packed.withSum(SAMPLE));
    }

    private static void writtenBytes() {
        check.sentence("Promise 14", "Byte i of what was written last.");
        Subject x = sample();
        x.object();
        x.write(1);
        x.write(0);
        // changes of the object since then do not show
        x.bytes(0, 0, 0, 0);
        x.name(0, 9, 3, 0, 0);
        check.allWritten(x, Packed.withSum(SAMPLE));
        // nor do refused calls
        check.index(() -> x.write(2));
        check.argument(() -> x.read(1));
        check.written(x, 0, Packed.withSum(SAMPLE));
        x.write(0);
        check.written(x, 2, 2, 5, 1, 2, 5, 0, 3, 0, 0, 0);
    }

    private static void noSuchWrittenByte() {
        check.sentence("Promise 14", "IndexOutOfBoundsException, when there is none.");
        Subject x = sample();
        check.index(() -> x.written(0), () -> x.written(-1));
        int many = x.write(0);
        check.index(() -> x.written(-1), () -> x.written(many));
        check.index(() -> x.written(Integer.MIN_VALUE), () -> x.written(Integer.MAX_VALUE));
        check.written(x, 0, 79);
        check.written(x, many - 1, Packed.withSum(SAMPLE)[many - 1]);
        // a shorter one hides what the longer one left
        x.object();
        x.write(1);
        check.written(x, 6, 211);
        check.index(() -> x.written(7), () -> x.written(many - 1));
    }

    private static void anotherByte() {
        check.sentence("Promise 15", "Byte i of what was written last is another one: the one before.");
        Subject x = sample();
        int many = x.write(0);
        check.due(79, () -> x.alter(0, 255));
        check.due(255, () -> x.alter(0, 0));
        check.due(0, () -> x.alter(0, 0));
        check.written(x, 0, 0, 66);
        int last = Packed.withSum(SAMPLE)[many - 1];
        check.due(last, () -> x.alter(many - 1, 1));
        check.due(1, () -> x.written(many - 1));
        check.due(many, () -> x.count(6));
        x.write(0);
        check.allWritten(x, Packed.withSum(SAMPLE));
    }

    private static void alterNoSuchByte() {
        check.sentence("Promise 15", "IndexOutOfBoundsException, when there is none");
        Subject x = sample();
        check.index(() -> x.alter(0, 0), () -> x.alter(0, 256));
        int many = x.write(0);
        check.index(() -> x.alter(-1, 0), () -> x.alter(many, 0), () -> x.alter(many, 256), () -> x.alter(-1, -1));
        check.index(() -> x.alter(Integer.MIN_VALUE, 0), () -> x.alter(Integer.MAX_VALUE, 0));
        check.allWritten(x, Packed.withSum(SAMPLE));
        check.due(79, () -> x.alter(0, 1));
        check.changesNothing(Scenes::lively,
                y -> check.index(() -> y.alter(-1, 5), () -> y.alter(y.count(6), 5)), Scenes.LIVELY_NAMES);
    }

    private static void alterToNoByte() {
        check.sentence("Promise 15", "IllegalArgumentException, when v is not 0 .. 255.");
        Subject x = sample();
        x.write(0);
        check.argument(() -> x.alter(1, -1), () -> x.alter(1, 256), () -> x.alter(1, 256 + 66));
        check.argument(() -> x.alter(1, Integer.MIN_VALUE), () -> x.alter(1, Integer.MAX_VALUE));
        check.due(66, () -> x.written(1));
        check.due(66, () -> x.alter(1, 0));
        check.due(0, () -> x.alter(1, 255));
        check.due(255, () -> x.written(1));
        check.changesNothing(Scenes::lively,
                y -> check.argument(() -> y.alter(0, 256), () -> y.alter(0, -1)), Scenes.LIVELY_NAMES);
    }

    private static void readAsItIsNow() {
        check.sentence("Promise 16", "Reads what was written last, as it is now, without its last cut bytes,"
                + " as an object more: its number.");
        Subject x = sample();
        x.write(0);
        check.due(1, () -> x.read(0));
        check.counts(x, 7, 2, 4, 1);
        check.due(2, () -> x.count(0));
        // what was read is an object of its own, as what was written stays
        check.due(2, () -> x.section(1, 0, 0, 1));
        x.bytes(1, 0, 0, 0x11111111);
        check.due(2, () -> x.read(0));
        x.write(2);
        check.allWritten(x, Packed.withSum(SAMPLE));
        x.write(0);
        check.written(x, 0, Packed.withSum(SAMPLE));
        // as it is now: bytes altered, with their sum
        Subject y = Packed.roomy();
        check.due(1, () -> Packed.readAs(y, Packed.withSum(SAMPLE)));
        check.due(SAMPLE.length + 2, () -> y.write(1));
        check.allWritten(y, Packed.withSum(SAMPLE));
        check.argument(() -> y.name(1, 8, 3, 0, 0));
        // without its last bytes: 7 stay
        check.due(2, () -> Packed.readAs(y, Packed.withSum(79, 66, 0, 0, 0)));
        check.counts(y, 7, 0, 0, 0);
        // what was read is linked like what was built
        check.due(3, () -> Packed.readAs(y, Packed.withSum(79, 66, 1, 1, 1, 0, 2, 0, 4, 1, 2, 3, 4,
                0, 0, 0, 9, 0, 0, 0, 0, 0, 0, 2, 1, 0, 0, 0, 0, 7)));
        y.choose(3);
        check.due(4, () -> y.link(9, 100));
        check.image(y, 0, 1, 2, 0, 107);
    }

    private static void cuts() {
        check.sentence("Promise 16", "IllegalArgumentException, when cut is not 0 up to its length");
        Subject x = sample();
        int many = x.write(0);
        check.argument(() -> x.read(-1), () -> x.read(many + 1));
        check.argument(() -> x.read(Integer.MIN_VALUE), () -> x.read(Integer.MAX_VALUE));
        // within its length, yet the rest of it is no object
        for (int cut = 1; cut <= many; cut++) {
            int asked = cut;
            check.argument(() -> x.read(asked));
        }
        check.due(1, () -> x.count(0));
        check.due(1, () -> x.read(0));
        // with 7 bytes left, and behind them what was written
        Subject y = sample();
        y.write(0);
        int[] smallest = Packed.withSum(79, 66, 0, 0, 0);
        for (int i = 0; i < smallest.length; i++) {
            y.alter(i, smallest[i]);
        }
        check.argument(() -> y.read(many - 6), () -> y.read(many - 8));
        check.due(1, () -> y.read(many - 7));
        for (int more : new int[] {1, 8, 100}) {
            cutOfLessThanNothing(more);
        }
        check.changesNothing(Scenes::lively,
                z -> check.argument(() -> z.read(-1), () -> z.read(z.count(6) + 1)), Scenes.LIVELY_NAMES);
    }

    /** Bytes of a longer one that was written before would make an object, but they are no part of the last one. */
    private static void cutOfLessThanNothing(int more) {
        Subject x = Scenes.objects(2);
        x.section(0, 0, 0, more);
        x.section(1, 0, 0, 0);
        int[] longer = Packed.withSum(Packed.joined(Packed.row(79, 66, 1, 0, 0, 0, 0, 0, more), new int[more]));
        x.write(0);
        check.written(x, 0, longer);
        int many = x.write(1);
        for (int i = 0; i < many; i++) {
            x.alter(i, longer[i]);
        }
        check.argument(() -> x.read(-more), () -> x.read(0), () -> x.read(-2000), () -> x.read(many + 1));
        check.due(2, () -> x.count(0));
    }

    private static void nothingWrittenYet() {
        check.sentence("Promise 16", "or those are no object as bytes (nothing was written yet, say)");
        Subject x = sample();
        check.argument(() -> x.read(0), () -> x.read(1), () -> x.read(-1));
        check.due(1, () -> x.count(0));
        x.write(0);
        check.due(1, () -> x.read(0));
    }

    private static void refused(int... body) {
        Subject x = Packed.roomy();
        check.argument(() -> Packed.readAs(x, Packed.withSum(body)));
        check.counts(x, 0, 1);
        check.counts(x, 7, 3, 0, 0);
    }

    private static void accepted(int... body) {
        Subject x = Packed.roomy();
        check.due(1, () -> Packed.readAs(x, Packed.withSum(body)));
        check.due(body.length + 2, () -> x.write(1));
        check.written(x, 0, Packed.withSum(body).length > 150 ? Packed.row(79, 66) : Packed.withSum(body));
    }

    private static void noObjectAsBytes() {
        check.sentence("Promise 16", "or those are no object as bytes");
        accepted(79, 66, 0, 0, 0);
        refused();
        refused(79);
        refused(79, 66);
        refused(79, 66, 0, 0);
        refused(78, 66, 0, 0, 0);
        refused(80, 66, 0, 0, 0);
        refused(79, 65, 0, 0, 0);
        refused(79, 67, 0, 0, 0);
        refused(66, 79, 0, 0, 0);
        refused(79, 66, 0, 0, 0, 0);
        // too few bytes, and one too many, for each part
        refused(79, 66, 1, 0, 0);
        refused(79, 66, 1, 0, 0, 0, 0, 0);
        refused(79, 66, 1, 0, 0, 0, 0, 0, 2, 5);
        accepted(79, 66, 1, 0, 0, 0, 0, 0, 2, 5, 6);
        refused(79, 66, 1, 0, 0, 0, 0, 0, 2, 5, 6, 7);
        accepted(79, 66, 1, 0, 0, 3, 0, 0, 1);
        refused(79, 66, 1, 0, 0, 3, 0, 0, 1, 0);
        refused(79, 66, 0, 1, 0);
        refused(79, 66, 0, 1, 0, 0, 0, 0, 1, 3, 0, 0);
        accepted(79, 66, 0, 1, 0, 0, 0, 0, 1, 3, 0, 0, 0);
        refused(79, 66, 0, 1, 0, 0, 0, 0, 1, 3, 0, 0, 0, 0);
        int[] head = {79, 66, 1, 1, 1, 0, 0, 0, 0, 0, 0, 0, 1, 3, 0, 0, 0};
        refused(head);
        refused(Packed.joined(head, new int[8]));
        accepted(Packed.joined(head, new int[9]));
        refused(Packed.joined(head, new int[10]));
        // the sum
        Subject x = Packed.roomy();
        check.argument(() -> Packed.readAs(x, 79, 66, 0, 0, 0), () -> Packed.readAs(x, 79, 66, 0, 0, 0, 0));
        check.argument(() -> Packed.readAs(x, 79, 66, 0, 0, 0, 0, 210), () -> Packed.readAs(x, 79, 66, 0, 0, 0, 0, 212));
        check.argument(() -> Packed.readAs(x, 79, 66, 0, 0, 0, 1, 211), () -> Packed.readAs(x, 79, 66, 0, 0, 0, 211, 0));
        check.due(1, () -> Packed.readAs(x, 79, 66, 0, 0, 0, 0, 211));
    }

    private static void everyByteCounts() {
        check.sentence("Promise 16", "as it is now");
        Subject x = sample();
        int many = x.write(0);
        for (int i = 0; i < many; i++) {
            int at = i;
            int before = Packed.withSum(SAMPLE)[at];
            x.alter(at, before ^ 1);
            check.argument(() -> x.read(0));
            x.alter(at, before);
        }
        check.due(1, () -> x.read(0));
        x.write(1);
        check.written(x, 0, Packed.withSum(SAMPLE));
    }

    private static void sectionsThatSectionRefuses() {
        check.sentence("Promise 16", "(all that section(), name(), reference() would refuse, too)");
        accepted(79, 66, 1, 0, 0, 3, 6, 0, 128);
        refused(79, 66, 1, 0, 0, 4, 6, 0, 0);
        refused(79, 66, 1, 0, 0, 255, 0, 0, 0);
        refused(79, 66, 1, 0, 0, 3, 7, 0, 128);
        refused(79, 66, 1, 0, 0, 3, 255, 0, 128);
        refused(79, 66, 1, 0, 0, 3, 6, 0, 129);
        refused(79, 66, 1, 0, 0, 3, 6, 1, 0);
        refused(79, 66, 1, 0, 0, 3, 6, 255, 255);
        for (int kind = 0; kind < 3; kind++) {
            accepted(Packed.joined(Packed.row(79, 66, 1, 0, 0, kind, 0, 0, 128), new int[128]));
            refused(Packed.joined(Packed.row(79, 66, 1, 0, 0, kind, 0, 0, 129), new int[129]));
            accepted(79, 66, 1, 0, 0, kind, 0, 0, 0);
        }
        accepted(Packed.joined(Packed.row(79, 66, 8, 0, 0), Packed.repeated(8, 3, 6, 0, 128)));
        refused(Packed.joined(Packed.row(79, 66, 9, 0, 0), Packed.repeated(9, 3, 6, 0, 128)));
    }

    private static int[] names(int many) {
        int[] all = {79, 66, 0, many, 0};
        for (int i = 0; i < many; i++) {
            all = Packed.joined(all, Packed.row(0, 0, 0, i, 3, 0, 0, 0));
        }
        return all;
    }

    private static void namesThatNameRefuses() {
        check.sentence("Promise 16", "(all that section(), name(), reference() would refuse, too)");
        int[] head = {79, 66, 2, 1, 0, 0, 0, 0, 2, 5, 5, 3, 0, 0, 100};
        int[][] good = {
            {0, 0, 0, 0}, {0, 0, 0, 2}, {1, 0, 0, 2}, {0, 1, 0, 100}, {1, 1, 0, 100},
            {2, 0, 0, 1}, {2, 6, 4, 0}, {3, 0, 0, 0},
        };
        int[][] bad = {
            {0, 0, 0, 3}, {1, 0, 0, 3}, {0, 0, 1, 0}, {1, 0, 1, 2}, {0, 1, 0, 101}, {1, 1, 0, 101},
            {0, 2, 0, 0}, {1, 2, 0, 0}, {0, 255, 0, 0},
            {2, 0, 0, 0}, {2, 0, 4, 1}, {2, 7, 0, 1}, {2, 255, 0, 1}, {2, 0, 255, 255},
            {3, 1, 0, 0}, {3, 0, 0, 1}, {3, 0, 1, 0}, {4, 0, 0, 0}, {255, 0, 0, 0},
        };
        for (int[] rest : good) {
            accepted(Packed.joined(head, Packed.row(128, 0, 0, 1), rest));
        }
        for (int[] rest : bad) {
            refused(Packed.joined(head, Packed.row(128, 0, 0, 1), rest));
        }
        accepted(79, 66, 0, 2, 0, 1, 0, 0, 1, 3, 0, 0, 0, 0, 0, 0, 1, 3, 0, 0, 0);
        refused(79, 66, 0, 2, 0, 1, 0, 0, 1, 3, 0, 0, 0, 1, 0, 0, 1, 3, 0, 0, 0);
        refused(79, 66, 0, 2, 0, 1, 0, 0, 1, 3, 0, 0, 0, 1, 0, 0, 1, 2, 0, 0, 1);
        accepted(names(12));
        refused(names(13));
    }

    private static void referencesThatReferenceRefuses() {
        check.sentence("Promise 16", "(all that section(), name(), reference() would refuse, too)");
        int[] head = {79, 66, 2, 1, 1, 0, 0, 0, 2, 5, 5, 3, 0, 0, 2, 0, 0, 0, 1, 3, 0, 0, 0};
        int[][] good = {{0, 0, 0, 0, 0}, {0, 0, 2, 4, 0}};
        int[][] bad = {
            {2, 0, 0, 0, 0}, {255, 0, 0, 0, 0}, {1, 0, 0, 0, 0}, {0, 0, 3, 0, 0}, {0, 1, 0, 0, 0}, {0, 1, 2, 0, 0},
            {0, 0, 0, 5, 0}, {0, 0, 0, 255, 0}, {0, 0, 0, 0, 1}, {0, 0, 0, 0, 255},
        };
        for (int[] rest : good) {
            accepted(Packed.joined(head, rest, Packed.row(128, 2, 3, 4)));
        }
        for (int[] rest : bad) {
            refused(Packed.joined(head, rest, Packed.row(128, 2, 3, 4)));
        }
        head[4] = 16;
        accepted(Packed.joined(head, new int[16 * 9]));
        head[4] = 17;
        refused(Packed.joined(head, new int[17 * 9]));
    }

    private static void twelveAskedLast() {
        check.sentence("Promise 16", "UnsupportedOperationException, when there are twelve (asked last).");
        Subject x = sample();
        int many = x.write(0);
        for (int i = 1; i < 11; i++) {
            x.read(0);
        }
        check.due(11, () -> x.read(0));
        check.unsupported(() -> x.read(0));
        check.argument(() -> x.read(1), () -> x.read(-1), () -> x.read(many), () -> x.read(many + 1));
        x.alter(0, 1);
        check.argument(() -> x.read(0));
        x.alter(0, 79);
        check.unsupported(() -> x.read(0));
        check.due(12, () -> x.count(0));
        check.written(x, 0, Packed.withSum(SAMPLE));
    }
}
