/** What 'Terms' says of the WAYS of references, sentence by sentence. */
public final class WaysTest {
    private static final int CROOKED = 4;
    private static final int OUT_OF_RANGE = 5;
    private static final int MOST = Integer.MAX_VALUE;
    private static final int LEAST = Integer.MIN_VALUE;

    private static final Check check = new Check("WaysTest");

    public static void main(String[] args) {
        way0();
        way1();
        way2();
        way3();
        way4();
        placesCountTheBase();
        wideNumbers();
        check.end();
    }

    /** A section of eight bytes 0x77 with one reference, at its place 2, to the name at its begin. */
    private static Subject referring(int way, int addend) {
        Subject x = Scenes.plain(8);
        x.bytes(0, 0, 0, 0x77777777);
        x.bytes(0, 0, 4, 0x77777777);
        x.reference(0, 0, 2, way, 0, addend);
        x.choose(0);
        return x;
    }

    /** Its bytes are these, and those beside them are as they were. */
    private static void gives(int way, int addend, int base, int... want) {
        Subject x = referring(way, addend);
        check.due(8, () -> x.link(0, base));
        check.fault(x, 0, -1, -1);
        check.image(x, 0, 0x77, 0x77);
        check.image(x, 2, want);
        for (int i = 2 + want.length; i < 8; i++) {
            check.image(x, i, 0x77);
        }
    }

    private static void fails(int fault, int way, int addend, int base) {
        Subject x = referring(way, addend);
        check.unsupported(() -> x.link(0, base));
        check.fault(x, fault, 0, 0);
        check.due(0, () -> x.count(2));
    }

    private static void way0() {
        check.sentence("Terms", "0 the lowest 32 bits of S + A, in four bytes, the highest first");
        gives(0, 0, 0, 0, 0, 0, 0);
        gives(0, 0x01020304, 0, 1, 2, 3, 4);
        gives(0, -1, 0, 255, 255, 255, 255);
        gives(0, -1, 1, 0, 0, 0, 0);
        gives(0, MOST, 0, 127, 255, 255, 255);
        gives(0, MOST, 1, 128, 0, 0, 0);
        gives(0, MOST, 1000000, 128, 15, 66, 63);
        gives(0, LEAST, 0, 128, 0, 0, 0);
        gives(0, LEAST, 1, 128, 0, 0, 1);
    }

    private static void way1() {
        check.sentence("Terms", "1 the lowest 16, in two, OUT OF RANGE unless S + A is 0 .. 65535");
        gives(1, 0x0102, 0, 1, 2);
        gives(1, 0, 0, 0, 0);
        gives(1, -10, 10, 0, 0);
        fails(OUT_OF_RANGE, 1, -1, 0);
        fails(OUT_OF_RANGE, 1, -11, 10);
        gives(1, 65535, 0, 255, 255);
        gives(1, 65525, 10, 255, 255);
        fails(OUT_OF_RANGE, 1, 65536, 0);
        fails(OUT_OF_RANGE, 1, 65526, 10);
        gives(1, -1000000, 1000000, 0, 0);
        fails(OUT_OF_RANGE, 1, 0, 65536);
        gives(1, 0, 65535, 255, 255);
    }

    private static void way2() {
        check.sentence("Terms", "2 S + A - P in two bytes, out of range unless it is -32768 .. 32767");
        for (int base : new int[] {0, 1000000}) {
            gives(2, 2, base, 0, 0);
            gives(2, 2 + 0x0102, base, 1, 2);
            gives(2, 1, base, 255, 255);
            gives(2, 2 - 32768, base, 128, 0);
            fails(OUT_OF_RANGE, 2, 2 - 32769, base);
            gives(2, 2 + 32767, base, 127, 255);
            fails(OUT_OF_RANGE, 2, 2 + 32768, base);
        }
    }

    private static void way3() {
        check.sentence("Terms", "3 (S + A - P) moved down by 2, in one byte, CROOKED unless S + A - P can be divided"
                + " by 4, then out of range unless it is -128 .. 127 behind that");
        for (int base : new int[] {0, 3, 1000000}) {
            gives(3, 2, base, 0);
            gives(3, 2 + 4, base, 1);
            gives(3, 2 - 4, base, 255);
            for (int off = 1; off <= 3; off++) {
                fails(CROOKED, 3, 2 + off, base);
                fails(CROOKED, 3, 2 - off, base);
                // crooked is asked first where both are so
                fails(CROOKED, 3, 2 + 4 * 128 + off, base);
                fails(CROOKED, 3, 2 - 4 * 129 - off, base);
            }
            gives(3, 2 + 4 * 127, base, 127);
            fails(OUT_OF_RANGE, 3, 2 + 4 * 128, base);
            gives(3, 2 - 4 * 128, base, 128);
            fails(OUT_OF_RANGE, 3, 2 - 4 * 129, base);
        }
    }

    private static void way4() {
        check.sentence("Terms", "4 the highest 16 bits of S + A + 32768 (all of them 32 bits), in two.");
        gives(4, 0, 0, 0, 0);
        gives(4, 32767, 0, 0, 0);
        gives(4, 32768, 0, 0, 1);
        gives(4, 32767, 1, 0, 1);
        gives(4, 0x01028000 - 1, 0, 1, 2);
        gives(4, 0x01028000, 0, 1, 3);
        gives(4, -1, 0, 0, 0);
        gives(4, -32768, 0, 0, 0);
        gives(4, -32769, 0, 255, 255);
        gives(4, MOST - 32768, 0, 127, 255);
        gives(4, MOST - 32767, 0, 128, 0);
        gives(4, MOST - 32768, 1, 128, 0);
        gives(4, MOST, 0, 128, 0);
        gives(4, MOST, 1000000, 128, 15);
        gives(4, LEAST, 0, 128, 0);
        gives(4, LEAST + 32767, 0, 128, 0);
        gives(4, LEAST + 32768, 0, 128, 1);
    }

    private static void placesCountTheBase() {
        check.sentence("Terms",
                "S is the name's place in the image, A the addend, P the reference's place in the image.");
        Subject x = Scenes.plain(4, 12);
        x.name(1, 9, 0, 0, 12);
        x.name(1, 8, 2, 5, 3);
        x.name(1, 0, 3, 0, 0);
        x.reference(1, 0, 0, 1, 1, 1);
        x.reference(1, 0, 2, 2, 1, 1);
        x.reference(1, 0, 4, 1, 2, -2);
        x.reference(1, 0, 6, 2, 2, -2);
        x.reference(1, 0, 8, 1, 3, 0);
        x.reference(1, 0, 11, 3, 3, 3);
        x.chooseAll(0, 1);
        // 1000 to 1003 object 0, 1004 to 1015 object 1, 1024 to 1026 the common
        check.due(27, () -> x.link(1, 1000));
        check.image(x, 4, 1017 >> 8, 1017 & 255, 0, 1017 - 1006, 1022 >> 8, 1022 & 255, 0, 1022 - 1010);
        check.image(x, 12, 1000 >> 8, 1000 & 255, 0, (1003 - 1015) / 4 & 255);
    }

    private static void wideNumbers() {
        check.sentence("Terms", "S + A and the others are of 64 bits but in 0 and 4.");
        for (int base : new int[] {0, 1, 2, 3, 999999, 1000000}) {
            for (int way = 1; way <= 2; way++) {
                fails(OUT_OF_RANGE, way, MOST, base);
                fails(OUT_OF_RANGE, way, LEAST, base);
            }
            fails(OUT_OF_RANGE, 3, MOST - 1, base);
            fails(OUT_OF_RANGE, 3, LEAST + 2, base);
            fails(CROOKED, 3, MOST, base);
            fails(CROOKED, 3, LEAST, base);
            gives(0, LEAST, base, 128, base >> 16, base >> 8 & 255, base & 255);
        }
    }
}
