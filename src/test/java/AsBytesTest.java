import java.util.Arrays;

/** What 'Terms' says of an object AS BYTES, sentence by sentence, in writing and in reading. */
public final class AsBytesTest {
    private static final int LONGEST = 5 + 8 * (4 + 128) + 12 * 8 + 16 * 9 + 2;

    private static final Check check = new Check("AsBytesTest");

    public static void main(String[] args) {
        head();
        sections();
        names();
        references();
        sum();
        longest();
        check.end();
    }

    private static void head() {
        check.sentence("Terms", "AS BYTES an object is: 79, 66; how many sections, names, references (a byte each)");
        Subject x = Scenes.objects(1);
        x.write(0);
        check.written(x, 0, 79, 66, 0, 0, 0);
        x.section(0, 3, 0, 0);
        x.section(0, 0, 0, 0);
        x.name(0, 1, 3, 0, 0);
        for (int i = 0; i < 3; i++) {
            x.reference(0, 1, 0, 0, 0, 0);
        }
        x.write(0);
        check.written(x, 0, 79, 66, 2, 1, 3);
        check.due(5 + 2 * 4 + 8 + 3 * 9 + 2, () -> x.count(6));
    }

    private static void sections() {
        check.sentence("Terms", "each section: kind, alignment (its power), length (two bytes, the highest first),"
                + " and, but for EMPTY, its bytes");
        Subject x = Scenes.objects(1);
        x.section(0, 3, 6, 128);
        x.section(0, 0, 0, 0);
        x.section(0, 3, 5, 0);
        x.section(0, 1, 4, 2);
        x.section(0, 2, 1, 5);
        x.bytes(0, 3, 0, 0x80FF0000);
        x.bytes(0, 4, 1, 0x01020304);
        x.write(0);
        check.allWritten(x, Packed.withSum(79, 66, 5, 0, 0,
                3, 6, 0, 128,
                0, 0, 0, 0,
                3, 5, 0, 0,
                1, 4, 0, 2, 0x80, 0xFF,
                2, 1, 0, 5, 0, 1, 2, 3, 4));
        Subject longest = Scenes.objects(1);
        longest.section(0, 2, 0, 128);
        longest.bytes(0, 0, 127, -1);
        check.due(5 + 4 + 128 + 2, () -> longest.write(0));
        check.written(longest, 5, 2, 0, 0, 128);
        check.written(longest, 5 + 4 + 126, 0, 255);
    }

    private static void names() {
        check.sentence("Terms", "each name: the number (four bytes), its sort (0 strong, 1 weak, 2 common, 3 wanted),"
                + " section or (common) alignment, place or size (two bytes; wanted: 0, 0, 0)");
        Subject x = Scenes.objects(1);
        x.section(0, 3, 0, 0);
        x.section(0, 3, 0, 128);
        x.name(0, Integer.MIN_VALUE, 0, 1, 128);
        x.name(0, Integer.MAX_VALUE, 1, 0, 0);
        x.name(0, -1, 2, 6, 1024);
        x.name(0, 0, 2, 0, 1);
        x.name(0, 0x01020304, 2, 3, 255);
        x.name(0, 255, 2, 3, 256);
        x.name(0, 256, 3, 0, 0);
        x.write(0);
        check.allWritten(x, Packed.withSum(79, 66, 2, 7, 0, 3, 0, 0, 0, 3, 0, 0, 128,
                128, 0, 0, 0, 0, 1, 0, 128,
                127, 255, 255, 255, 1, 0, 0, 0,
                255, 255, 255, 255, 2, 6, 4, 0,
                0, 0, 0, 0, 2, 0, 0, 1,
                1, 2, 3, 4, 2, 3, 0, 255,
                0, 0, 0, 255, 2, 3, 1, 0,
                0, 0, 1, 0, 3, 0, 0, 0));
        check.due(1, () -> x.read(0));
        for (int number : new int[] {Integer.MIN_VALUE, Integer.MAX_VALUE, -1, 0, 0x01020304, 255, 256}) {
            check.argument(() -> x.name(1, number, 3, 0, 0));
        }
    }

    private static void references() {
        check.sentence("Terms", "each reference: section, place (two), way, name (its number in the list), addend (four)");
        Subject x = Scenes.objects(1);
        x.section(0, 3, 0, 0);
        x.section(0, 0, 0, 1);
        x.name(0, 900, 3, 0, 0);
        x.name(0, 901, 3, 0, 0);
        x.reference(0, 1, 0, 0, 0, Integer.MIN_VALUE);
        x.reference(0, 1, 1, 4, 1, Integer.MAX_VALUE);
        x.reference(0, 1, 1, 3, 1, -1);
        x.write(0);
        check.written(x, 5 + 4 + 5 + 16,
                1, 0, 0, 0, 0, 128, 0, 0, 0,
                1, 0, 1, 4, 1, 127, 255, 255, 255,
                1, 0, 1, 3, 1, 255, 255, 255, 255);
        x.read(0);
        x.write(1);
        check.written(x, 5 + 4 + 5 + 16,
                1, 0, 0, 0, 0, 128, 0, 0, 0,
                1, 0, 1, 4, 1, 127, 255, 255, 255,
                1, 0, 1, 3, 1, 255, 255, 255, 255);
    }

    /** The sum of all but the bytes of the section of summing(). */
    private static final int SUM_OF_HEAD = 79 + 2 * 66 + 3 + 9 * 32;

    /** One section of 32 bytes, at the places 10 to 41: 255 in the first fours, and the last four as told. */
    private static Subject summing(int fours, int lastFour) {
        Subject x = Scenes.objects(1);
        x.section(0, 0, 0, 32);
        for (int i = 0; i < fours; i++) {
            x.bytes(0, 0, 4 * i, -1);
        }
        x.bytes(0, 0, 28, lastFour);
        return x;
    }

    private static void sumIs(int want, Subject x) {
        check.due(43, () -> x.write(0));
        check.written(x, 41, want >> 8 & 255, want & 255);
        check.due(1, () -> x.read(0));
    }

    private static void sum() {
        check.sentence("Terms", "the SUM: all bytes before, each times its place (from 1 on), together,"
                + " the lowest 16 bits, in two.");
        Subject x = Scenes.objects(1);
        x.write(0);
        check.written(x, 5, 0, 79 + 2 * 66);
        sumIs(SUM_OF_HEAD, summing(0, 0));
        sumIs(SUM_OF_HEAD + 255 * 41, summing(0, 255));
        for (int want = 65534; want <= 65537; want++) {
            sumIs(want, summing(3, lastFourFor(want - SUM_OF_HEAD - 255 * (10 + 21) * 12 / 2)));
        }
        sumIs(SUM_OF_HEAD + 255 * (10 + 41) * 32 / 2, summing(7, -1));
    }

    /** Four bytes at the places 38 to 41 whose part of the sum is a number. */
    private static int lastFourFor(int rest) {
        for (int i = 0; i < 256 * 256; i++) {
            int before = 38 * (i >> 8) + 39 * (i & 255);
            int last = Math.floorDiv(rest - before - 40 * 255, 41);
            if (last >= 0 && last < 256 && before + 40 * 255 + 41 * last == rest) {
                return i << 16 | 255 << 8 | last;
            }
        }
        throw new AssertionError("the test itself is wrong: no four bytes for " + rest);
    }

    private static Subject fullest() {
        Subject x = Scenes.objects(1);
        for (int s = 0; s < 8; s++) {
            x.section(0, s % 3, 6, 128);
            x.bytes(0, s, 124, -1 - s);
        }
        for (int n = 0; n < 12; n++) {
            x.name(0, -1 - n, 0, 7, 128);
        }
        for (int r = 0; r < 16; r++) {
            x.reference(0, 7, 128, 4, 11, -1 - r);
        }
        return x;
    }

    private static int[] fullestBytes() {
        int[] all = {79, 66, 8, 12, 16};
        for (int s = 0; s < 8; s++) {
            all = Packed.joined(all, Packed.row(s % 3, 6, 0, 128), new int[124], Packed.row(255, 255, 255, 255 - s));
        }
        for (int n = 0; n < 12; n++) {
            all = Packed.joined(all, Packed.row(255, 255, 255, 255 - n, 0, 7, 0, 128));
        }
        for (int r = 0; r < 16; r++) {
            all = Packed.joined(all, Packed.row(7, 0, 128, 4, 11, 255, 255, 255, 255 - r));
        }
        return Packed.withSum(all);
    }

    /** Its bytes are more than calls: a new subject looks at each part of them. */
    private static void longest() {
        check.sentence("Terms", "AS BYTES an object is");
        int[] want = fullestBytes();
        check.holds("the longest has " + LONGEST + " bytes", want.length == LONGEST);
        for (int from = 0; from < LONGEST; from += 400) {
            Subject x = fullest();
            check.due(LONGEST, () -> x.write(0));
            check.due(LONGEST, () -> x.count(6));
            check.index(() -> x.written(LONGEST), () -> x.alter(LONGEST, 0));
            check.due(1, () -> x.read(0));
            check.counts(x, 7, 8, 12, 16);
            check.due(LONGEST, () -> x.write(1));
            check.written(x, from, Arrays.copyOfRange(want, from, Math.min(from + 400, LONGEST)));
        }
    }
}
