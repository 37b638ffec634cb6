import java.util.Arrays;

/** Promises 13 to 16: write, written, alter, read. */
public final class WrittenTest {
    private static final Class<IndexOutOfBoundsException> INDEX = IndexOutOfBoundsException.class;
    private static final Class<IllegalArgumentException> ARGUMENT = IllegalArgumentException.class;
    private static final Class<UnsupportedOperationException> UNSUPPORTED = UnsupportedOperationException.class;

    private static final Check check = new Check("WrittenTest");

    public static void main(String[] args) {
        promise13And14();
        promise13Longest();
        promise15();
        promise16();
        promise16Refuses();
        promise16EveryByte();
        promise16Twelve();
        check.end();
    }

    private static ObjectLinks sample() {
        ObjectLinks x = new ObjectLinks();
        x.object();
        x.section(0, 2, 5, 3);
        x.section(0, 3, 6, 128);
        x.bytes(0, 0, 0, 0x80FF0100);
        x.name(0, 0x81020304, 0, 1, 128);
        x.name(0, -1, 1, 0, 3);
        x.name(0, 7, 2, 6, 1024);
        x.name(0, 8, 3, 0, 0);
        x.reference(0, 0, 2, 4, 3, -2);
        return x;
    }

    private static final int[] SAMPLE = {
        79, 66, 2, 4, 1,
        2, 5, 0, 3, 0x80, 0xFF, 1,
        3, 6, 0, 128,
        0x81, 2, 3, 4, 0, 1, 0, 128,
        255, 255, 255, 255, 1, 0, 0, 3,
        0, 0, 0, 7, 2, 6, 4, 0,
        0, 0, 0, 8, 3, 0, 0, 0,
        0, 0, 2, 4, 3, 255, 255, 255, 254,
    };

    private static int[] withSum(int... body) {
        long sum = 0;
        for (int i = 0; i < body.length; i++) {
            sum += (long) body[i] * (i + 1);
        }
        int[] all = Arrays.copyOf(body, body.length + 2);
        all[body.length] = (int) (sum >> 8 & 255);
        all[body.length + 1] = (int) (sum & 255);
        return all;
    }

    private static void writtenIs(String what, ObjectLinks x, int[] want) {
        check.due(what + " count(6)", want.length, () -> x.count(6));
        for (int i = 0; i < want.length; i++) {
            int at = i;
            check.due(what + " written(" + at + ")", want[at], () -> x.written(at));
        }
        check.thrown(what + " behind the end", INDEX, () -> x.written(want.length));
    }

    private static void promise13And14() {
        ObjectLinks x = sample();
        check.thrown("13 object 1", INDEX, () -> x.write(1));
        check.thrown("13 object -1", INDEX, () -> x.write(-1));
        check.thrown("13 object far", INDEX, () -> x.write(Integer.MAX_VALUE));
        check.thrown("14 nothing yet", INDEX, () -> x.written(0));
        int[] want = withSum(SAMPLE);
        check.due("13 write", want.length, () -> x.write(0));
        writtenIs("14", x, want);
        check.thrown("14 -1", INDEX, () -> x.written(-1));
        check.thrown("14 far", INDEX, () -> x.written(Integer.MAX_VALUE));
        x.bytes(0, 0, 0, 0);
        writtenIs("14 as it was written", x, want);
        check.thrown("13 refused", INDEX, () -> x.write(1));
        writtenIs("14 as it was written", x, want);
        x.object();
        check.due("13 an object without anything", 7, () -> x.write(1));
        writtenIs("14 an object without anything", x, withSum(79, 66, 0, 0, 0));
    }

    private static ObjectLinks fullest() {
        ObjectLinks x = new ObjectLinks();
        x.object();
        for (int i = 0; i < 8; i++) {
            x.section(0, 0, 0, 128);
            for (int at = 0; at < 128; at += 4) {
                x.bytes(0, i, at, -1);
            }
        }
        for (int i = 0; i < 12; i++) {
            x.name(0, -1 - i, 0, 7, 128);
        }
        for (int i = 0; i < 16; i++) {
            x.reference(0, 7, 128, 4, 11, -1);
        }
        return x;
    }

    private static void promise13Longest() {
        ObjectLinks x = fullest();
        int many = 5 + 8 * 132 + 12 * 8 + 16 * 9 + 2;
        check.due("13 longest", many, () -> x.write(0));
        int[] body = new int[many - 2];
        for (int i = 0; i < body.length; i++) {
            body[i] = x.written(i);
        }
        writtenIs("13 longest, its sum", x, withSum(body));
        check.thrown("16 longest and a byte more", ARGUMENT, () -> x.read(-1));
        check.thrown("16 all cut", ARGUMENT, () -> x.read(many));
        check.thrown("16 more than all cut", ARGUMENT, () -> x.read(many + 1));
        check.thrown("14 behind the longest", INDEX, () -> x.written(many));
        check.thrown("15 behind the longest", INDEX, () -> x.alter(many, 0));
        check.due("16 longest", 1, () -> x.read(0));
        check.due("16 longest again", many, () -> x.write(1));
        writtenIs("16 longest again", x, withSum(body));
    }

    private static void promise15() {
        ObjectLinks x = sample();
        check.thrown("15 nothing yet", INDEX, () -> x.alter(0, 256));
        int many = x.write(0);
        check.due("15 before", 79, () -> x.alter(0, 255));
        check.due("15 before", 255, () -> x.alter(0, 0));
        check.due("14 altered", 0, () -> x.written(0));
        check.thrown("15 behind the end", INDEX, () -> x.alter(many, 0));
        check.thrown("15 behind the end first", INDEX, () -> x.alter(many, 256));
        check.thrown("15 -1", INDEX, () -> x.alter(-1, 0));
        check.thrown("15 256", ARGUMENT, () -> x.alter(1, 256));
        check.thrown("15 v -1", ARGUMENT, () -> x.alter(1, -1));
        check.thrown("15 v far", ARGUMENT, () -> x.alter(1, Integer.MIN_VALUE));
        check.due("14 refused ones leave nothing", 66, () -> x.written(1));
        check.due("15 the last", x.written(many - 1), () -> x.alter(many - 1, 1));
        check.due("14 the last", 1, () -> x.written(many - 1));
        x.write(0);
        writtenIs("13 the object is as before", x, withSum(SAMPLE));
    }

    private static void promise16() {
        ObjectLinks x = sample();
        check.thrown("16 nothing yet", ARGUMENT, () -> x.read(0));
        check.thrown("16 nothing yet", ARGUMENT, () -> x.read(1));
        int many = x.write(0);
        check.due("16 read", 1, () -> x.read(0));
        check.due("16 objects", 2, () -> x.count(0));
        check.due("16 its sections", 2, () -> x.count(7));
        check.due("16 its names", 4, () -> x.count(8));
        check.due("16 its references", 1, () -> x.count(9));
        check.thrown("16 its names are there already", ARGUMENT, () -> x.name(1, 8, 3, 0, 0));
        check.due("16 it grows like others", 2, () -> x.section(1, 0, 0, 1));
        x.write(0);
        writtenIs("16 the first stays as it was", x, withSum(SAMPLE));
        check.due("16 again", 2, () -> x.read(0));
        x.write(2);
        writtenIs("16 written again", x, withSum(SAMPLE));
        for (int cut = 1; cut <= many; cut++) {
            int asked = cut;
            check.thrown("16 cut " + cut, ARGUMENT, () -> x.read(asked));
        }
        check.thrown("16 cut too many", ARGUMENT, () -> x.read(many + 1));
        check.thrown("16 cut -1", ARGUMENT, () -> x.read(-1));
        check.thrown("16 cut far", ARGUMENT, () -> x.read(Integer.MIN_VALUE));
        check.thrown("16 cut far", ARGUMENT, () -> x.read(Integer.MAX_VALUE));
        check.due("16 refused ones leave nothing", 3, () -> x.count(0));
    }

    /** Puts bytes in the place of what was written last; the rest of it is to be cut. */
    private static int readAs(ObjectLinks x, int... bytes) {
        int many = x.write(0);
        for (int i = 0; i < bytes.length; i++) {
            x.alter(i, bytes[i]);
        }
        return x.read(many - bytes.length);
    }

    private static void refused(String what, ObjectLinks x, int... body) {
        int before = x.count(0);
        check.thrown("16 " + what, ARGUMENT, () -> readAs(x, withSum(body)));
        check.due("16 nothing stays of " + what, before, () -> x.count(0));
    }

    private static int[] joined(int[]... parts) {
        int[] all = new int[0];
        for (int[] part : parts) {
            int from = all.length;
            all = Arrays.copyOf(all, from + part.length);
            System.arraycopy(part, 0, all, from, part.length);
        }
        return all;
    }

    private static int[] row(int... values) {
        return values;
    }

    private static void promise16Refuses() {
        ObjectLinks x = fullest();
        check.due("16 nothing in it", 1, () -> readAs(x, withSum(79, 66, 0, 0, 0)));
        check.due("16 a part of what was written", 2, () -> readAs(x, withSum(SAMPLE)));
        x.write(2);
        writtenIs("16 a part of what was written", x, withSum(SAMPLE));
        check.thrown("16 no sum", ARGUMENT, () -> readAs(x, 79, 66, 0, 0, 0));
        check.thrown("16 half a sum", ARGUMENT, () -> readAs(x, 79, 66, 0, 0, 0, 0));
        check.thrown("16 wrong sum", ARGUMENT, () -> readAs(x, 79, 66, 0, 0, 0, 0, 210));
        check.thrown("16 wrong sum", ARGUMENT, () -> readAs(x, 79, 66, 0, 0, 0, 1, 211));
        check.due("16 right sum", 3, () -> readAs(x, 79, 66, 0, 0, 0, 0, 211));
        refused("nothing", x);
        refused("no head", x, 79);
        refused("no counts", x, 79, 66);
        refused("half the counts", x, 79, 66, 0, 0);
        refused("another first", x, 78, 66, 0, 0, 0);
        refused("another second", x, 79, 67, 0, 0, 0);
        refused("a byte more", x, 79, 66, 0, 0, 0, 0);
        refused("a missing section", x, 79, 66, 1, 0, 0);
        refused("half a section", x, 79, 66, 1, 0, 0, 0, 0, 0);
        refused("a section's bytes missing", x, 79, 66, 1, 0, 0, 0, 0, 0, 2, 5);
        refused("kind 4", x, 79, 66, 1, 0, 0, 4, 0, 0, 0);
        refused("power 7", x, 79, 66, 1, 0, 0, 0, 7, 0, 0);
        refused("length 256", x, 79, 66, 1, 0, 0, 3, 0, 1, 0);
        refused("EMPTY of 129", x, 79, 66, 1, 0, 0, 3, 0, 0, 129);
        refused("length 129", x, joined(row(79, 66, 1, 0, 0, 0, 0, 0, 129), new int[129]));
        check.due("16 length 128", 4, () -> readAs(x, withSum(joined(row(79, 66, 1, 0, 0, 0, 0, 0, 128), new int[128]))));
        refused("EMPTY with bytes", x, 79, 66, 1, 0, 0, 3, 0, 0, 1, 0);
        refused("nine sections", x, joined(row(79, 66, 9, 0, 0), new int[36]));
        check.due("16 eight sections", 5, () -> readAs(x, withSum(joined(row(79, 66, 8, 0, 0), new int[32]))));
        refusesNames(x);
        refusesReferences(x);
    }

    private static void refusesNames(ObjectLinks x) {
        int[] head = {79, 66, 1, 1, 0, 0, 0, 0, 2, 5, 5};
        refused("no name", x, head);
        refused("half a name", x, joined(head, row(0, 0, 0, 1, 3, 0, 0)));
        refused("strong behind the end", x, joined(head, row(0, 0, 0, 1, 0, 0, 0, 3)));
        refused("weak behind the end", x, joined(head, row(0, 0, 0, 1, 1, 0, 1, 0)));
        refused("section 1", x, joined(head, row(0, 0, 0, 1, 0, 1, 0, 0)));
        refused("common of power 7", x, joined(head, row(0, 0, 0, 1, 2, 7, 0, 1)));
        refused("common of size 0", x, joined(head, row(0, 0, 0, 1, 2, 0, 0, 0)));
        refused("common of size 1025", x, joined(head, row(0, 0, 0, 1, 2, 0, 4, 1)));
        refused("wanted, section 1", x, joined(head, row(0, 0, 0, 1, 3, 1, 0, 0)));
        refused("wanted, place 1", x, joined(head, row(0, 0, 0, 1, 3, 0, 0, 1)));
        refused("sort 4", x, joined(head, row(0, 0, 0, 1, 4, 0, 0, 0)));
        refused("a name twice", x, 79, 66, 0, 2, 0, 0, 0, 0, 1, 3, 0, 0, 0, 0, 0, 0, 1, 3, 0, 0, 0);
        int[] thirteen = row(79, 66, 0, 13, 0);
        for (int i = 0; i < 13; i++) {
            thirteen = joined(thirteen, row(0, 0, 0, i, 3, 0, 0, 0));
        }
        refused("thirteen names", x, thirteen);
    }

    private static void refusesReferences(ObjectLinks x) {
        int[] head = {79, 66, 2, 1, 1, 0, 0, 0, 2, 5, 5, 3, 0, 0, 2, 0, 0, 0, 1, 3, 0, 0, 0};
        check.due("16 a reference", x.count(0), () -> readAs(x, withSum(joined(head, row(0, 0, 2, 4, 0, 1, 2, 3, 4)))));
        refused("no reference", x, head);
        refused("half a reference", x, joined(head, row(0, 0, 0, 0, 0, 0, 0, 0)));
        refused("section 2", x, joined(head, row(2, 0, 0, 0, 0, 0, 0, 0, 0)));
        refused("EMPTY section", x, joined(head, row(1, 0, 0, 0, 0, 0, 0, 0, 0)));
        refused("place 3", x, joined(head, row(0, 0, 3, 0, 0, 0, 0, 0, 0)));
        refused("place 256", x, joined(head, row(0, 1, 0, 0, 0, 0, 0, 0, 0)));
        refused("way 5", x, joined(head, row(0, 0, 0, 5, 0, 0, 0, 0, 0)));
        refused("name 1", x, joined(head, row(0, 0, 0, 0, 1, 0, 0, 0, 0)));
        refused("a byte behind", x, joined(head, row(0, 0, 0, 0, 0, 0, 0, 0, 0, 0)));
        head[4] = 17;
        refused("seventeen references", x, joined(head, new int[17 * 9]));
    }

    /** A changed byte alone never makes another object: the sum tells. */
    private static void promise16EveryByte() {
        for (int i = 0; i < SAMPLE.length + 2; i++) {
            ObjectLinks x = sample();
            x.write(0);
            int at = i;
            int before = x.written(at);
            x.alter(at, before ^ 1);
            check.thrown("16 byte " + at + " changed", ARGUMENT, () -> x.read(0));
            x.alter(at, before);
            check.due("16 byte " + at + " as before", 1, () -> x.read(0));
        }
    }

    private static void promise16Twelve() {
        ObjectLinks x = sample();
        x.write(0);
        for (int i = 1; i < 12; i++) {
            int number = i;
            check.due("16 read", number, () -> x.read(0));
        }
        check.thrown("16 thirteenth", UNSUPPORTED, () -> x.read(0));
        check.thrown("16 thirteenth, cut", ARGUMENT, () -> x.read(1));
        check.thrown("16 thirteenth, cut far", ARGUMENT, () -> x.read(-1));
        x.alter(0, 1);
        check.thrown("16 thirteenth, no object as bytes", ARGUMENT, () -> x.read(0));
        check.due("16 twelve", 12, () -> x.count(0));
    }
}
