/** Promises 7 to 12 and 17: choose, link, fault, image, placeOf, nameAt, and what count tells of them. */
public final class LinkTest {
    private static final Class<IndexOutOfBoundsException> INDEX = IndexOutOfBoundsException.class;
    private static final Class<IllegalArgumentException> ARGUMENT = IllegalArgumentException.class;
    private static final Class<IllegalStateException> STATE = IllegalStateException.class;
    private static final Class<UnsupportedOperationException> UNSUPPORTED = UnsupportedOperationException.class;

    private static final Check check = new Check("LinkTest");

    public static void main(String[] args) {
        promise7();
        promise8Arguments();
        promise8Meanings();
        promise8Reached();
        promise8Order();
        promise8CommonOrder();
        promise8EmptyImages();
        promise8Ways();
        promise8WayRanges();
        promise8LaterOverEarlier();
        promise8NothingStaysOfTheLast();
        promise8Twelve();
        promise9Doubled();
        promise9Missing();
        promise9Outside();
        promise9AsTheyCome();
        promise9TooLong();
        promise9ForgottenByTheNext();
        promise10();
        promise11And12();
        promise17();
        check.end();
    }

    /** Objects, each with one CODE section of a length that a strong name, its number, begins. */
    private static ObjectLinks plain(int... lengths) {
        ObjectLinks x = new ObjectLinks();
        for (int i = 0; i < lengths.length; i++) {
            x.object();
            x.section(i, 0, 0, lengths[i]);
            x.name(i, i, 0, 0, 0);
        }
        return x;
    }

    private static void chooseAll(ObjectLinks x, int... objects) {
        for (int object : objects) {
            x.choose(object);
        }
    }

    private static void imageIs(String what, ObjectLinks x, int from, int... want) {
        for (int i = 0; i < want.length; i++) {
            int at = from + i;
            check.due(what + " image(" + at + ")", want[i], () -> x.image(at));
        }
    }

    private static void faultIs(String what, ObjectLinks x, int sort, int object, int number) {
        check.due(what + " fault(0)", sort, () -> x.fault(0));
        check.due(what + " fault(1)", object, () -> x.fault(1));
        check.due(what + " fault(2)", number, () -> x.fault(2));
    }

    private static void promise7() {
        ObjectLinks x = new ObjectLinks();
        check.thrown("7 no object", INDEX, () -> x.choose(0));
        for (int i = 0; i < 12; i++) {
            x.object();
        }
        for (int i = 0; i < 12; i++) {
            int object = 11 - i;
            int many = i + 1;
            check.due("7 choose", many, () -> x.choose(object));
            check.due("7 count(1)", many, () -> x.count(1));
        }
        for (int i = 0; i < 12; i++) {
            int object = i;
            check.thrown("7 again", ARGUMENT, () -> x.choose(object));
        }
        check.thrown("7 -1", INDEX, () -> x.choose(-1));
        check.thrown("7 12", INDEX, () -> x.choose(12));
        check.thrown("7 far", INDEX, () -> x.choose(Integer.MIN_VALUE));
        check.due("7 count(1)", 12, () -> x.count(1));
    }

    private static void promise8Arguments() {
        ObjectLinks x = plain(4, 4);
        check.thrown("8 base first", ARGUMENT, () -> x.link(0, -1));
        check.thrown("8 nothing chosen", STATE, () -> x.link(0, 0));
        chooseAll(x, 0);
        x.link(0, 0);
        x.choose(1);
        check.thrown("8 base 1000001", ARGUMENT, () -> x.link(0, 1000001));
        check.thrown("8 base far", ARGUMENT, () -> x.link(0, Integer.MIN_VALUE));
        check.due("8 still chosen", 1, () -> x.count(1));
        check.due("8 image still there", 4, () -> x.count(2));
        check.due("8 still at", 0, () -> x.placeOf(0, 0));
        check.due("8 base 1000000", 4, () -> x.link(1, 1000000));
        check.due("8 name at", 1000000, () -> x.nameAt(1));
        check.due("8 nothing chosen then", 0, () -> x.count(1));
        check.thrown("8 nothing chosen", STATE, () -> x.link(1, 0));
        check.due("8 image still there", 4, () -> x.count(2));
    }

    /** One name, 5, in several objects; object 0 wants it in way 0 at its place 0. */
    private static ObjectLinks wanting() {
        ObjectLinks x = plain(4, 16, 16, 16, 16);
        x.name(0, 5, 3, 0, 0);
        x.reference(0, 0, 0, 0, 1, 0);
        return x;
    }

    private static void promise8Meanings() {
        ObjectLinks x = wanting();
        x.name(1, 5, 1, 0, 3);
        x.name(2, 5, 1, 0, 7);
        x.name(3, 5, 2, 1, 9);
        x.name(4, 5, 0, 0, 11);
        chooseAll(x, 0, 1, 2, 3, 4);
        check.due("8 strong", 20, () -> x.link(0, 0));
        imageIs("8 strong", x, 0, 0, 0, 0, 4 + 11);
        check.due("8 strong", 15, () -> x.nameAt(5));
        check.due("8 no common then", 0, () -> x.count(5));
        check.due("8 the strong one's section", 4, () -> x.placeOf(4, 0));
        check.due("8 the weak one's section", -1, () -> x.placeOf(1, 0));
        chooseAll(x, 4, 3, 2, 1, 0);
        check.due("8 strong first", 20, () -> x.link(0, 0));
        check.due("8 strong first", 11, () -> x.nameAt(5));
        chooseAll(x, 0, 1, 2, 3);
        check.due("8 common", 13, () -> x.link(0, 0));
        check.due("8 common", 4, () -> x.nameAt(5));
        check.due("8 common in it", 1, () -> x.count(5));
        chooseAll(x, 3, 2, 0);
        check.due("8 common first", 13, () -> x.link(0, 0));
        chooseAll(x, 0, 1, 2);
        check.due("8 weak", 20, () -> x.link(0, 0));
        check.due("8 first weak", 7, () -> x.nameAt(5));
        chooseAll(x, 2, 0, 1);
        check.due("8 weak by objects", 20, () -> x.link(0, 0));
        check.due("8 first weak by objects", 7, () -> x.nameAt(5));
        check.due("8 that one's place", 0, () -> x.placeOf(2, 0));
        check.due("8 that one's name", 0, () -> x.nameAt(2));

        ObjectLinks y = plain(4, 8, 8);
        y.name(0, 5, 1, 0, 1);
        y.reference(0, 0, 0, 0, 1, 0);
        y.name(1, 5, 2, 0, 9);
        y.name(2, 5, 0, 0, 2);
        chooseAll(y, 0);
        y.link(0, 0);
        imageIs("8 own weak one", y, 0, 0, 0, 0, 1);
        chooseAll(y, 0, 1);
        check.due("8 a weak one means the common one", 13, () -> y.link(0, 0));
        imageIs("8 a weak one means the common one", y, 0, 0, 0, 0, 4);
        chooseAll(y, 0, 1, 2);
        check.due("8 a weak one means the strong one", 12, () -> y.link(0, 0));
        imageIs("8 a weak one means the strong one", y, 0, 0, 0, 0, 6);
        chooseAll(y, 1, 2);
        check.due("8 the entry may be a common that is strong elsewhere", 8, () -> y.link(5, 0));
        check.due("8 so its place", 0, () -> y.placeOf(2, 0));

        ObjectLinks z = new ObjectLinks();
        for (int i = 0; i < 3; i++) {
            z.object();
        }
        z.name(0, 5, 2, 1, 10);
        z.name(1, 5, 2, 4, 3);
        z.name(2, 5, 2, 0, 12);
        chooseAll(z, 0, 1, 2);
        check.due("8 greatest size, greatest alignment", 15 + 12, () -> z.link(5, 1));
        check.due("8 greatest alignment", 16, () -> z.nameAt(5));
        check.due("8 no section", 0, () -> z.count(3));
    }

    private static void promise8Reached() {
        ObjectLinks x = plain(4, 4, 4, 4);
        x.section(0, 0, 0, 4);
        x.name(0, 1, 3, 0, 0);
        x.name(0, 3, 3, 0, 0);
        x.name(0, 40, 2, 0, 6);
        x.name(0, 99, 3, 0, 0);
        x.reference(0, 1, 0, 0, 2, 0);
        x.reference(0, 1, 0, 0, 4, 0);
        x.reference(0, 0, 0, 0, 1, 0);
        x.name(1, 2, 3, 0, 0);
        x.reference(1, 0, 0, 0, 1, 0);
        x.name(2, 0, 3, 0, 0);
        x.reference(2, 0, 0, 0, 1, 0);
        chooseAll(x, 0, 1, 2, 3);
        check.due("8 round through three", 12, () -> x.link(0, 0));
        check.due("8 object 0", 0, () -> x.placeOf(0, 0));
        check.due("8 not reached, with a missing name", -1, () -> x.placeOf(0, 1));
        check.due("8 object 1", 4, () -> x.placeOf(1, 0));
        check.due("8 object 2", 8, () -> x.placeOf(2, 0));
        check.due("8 object 3", -1, () -> x.placeOf(3, 0));
        check.due("8 its name", -1, () -> x.nameAt(3));
        check.due("8 a common nobody reaches", -1, () -> x.nameAt(40));
        check.due("8 commons", 0, () -> x.count(5));
        chooseAll(x, 0, 1, 2, 3);
        check.due("8 reached by the entry alone", 4, () -> x.link(3, 0));
        check.due("8 object 0", -1, () -> x.placeOf(0, 0));
    }

    private static void promise8Order() {
        ObjectLinks x = new ObjectLinks();
        for (int i = 0; i < 2; i++) {
            x.object();
            for (int kind = 3; kind >= 0; kind--) {
                x.section(i, kind, kind, 3);
                x.name(i, 10 * i + kind, 0, 3 - kind, 0);
                if (kind != 3) {
                    x.bytes(i, 3 - kind, 0, 0x11111100 * (kind + 1 + 4 * i));
                }
            }
            x.section(i, 0, 0, 3);
            x.name(i, 10 * i + 4, 0, 4, 0);
            for (int k = 0; k < 4; k++) {
                x.name(i, 10 * (1 - i) + k, 3, 0, 0);
            }
        }
        // the last section of each refers to every other name of its list
        for (int i = 0; i < 2; i++) {
            x.section(i, 2, 6, 4);
            x.name(i, 10 * i + 5, 0, 5, 0);
            for (int n = 0; n < 9; n++) {
                x.reference(i, 5, 0, 0, n, 0);
            }
        }
        chooseAll(x, 1, 0);
        int base = 1;
        // object 0 reaches all of its own and, of object 1, kinds 0 .. 3
        check.due("8 order", 83 - base, () -> x.link(5, base));
        check.due("8 code of 1", 0, () -> x.placeOf(1, 3));
        check.due("8 second code of 1", -1, () -> x.placeOf(1, 4));
        check.due("8 code of 0", 3, () -> x.placeOf(0, 3));
        check.due("8 second code of 0", 6, () -> x.placeOf(0, 4));
        check.due("8 fixed of 1", 10 - base, () -> x.placeOf(1, 2));
        check.due("8 fixed of 0", 14 - base, () -> x.placeOf(0, 2));
        check.due("8 data of 1", 20 - base, () -> x.placeOf(1, 1));
        check.due("8 data of 0", 24 - base, () -> x.placeOf(0, 1));
        check.due("8 data of 0, the second", 64 - base, () -> x.placeOf(0, 5));
        check.due("8 data of 1, the second", -1, () -> x.placeOf(1, 5));
        check.due("8 empty of 1", 72 - base, () -> x.placeOf(1, 0));
        check.due("8 empty of 0", 80 - base, () -> x.placeOf(0, 0));
    }

    private static void promise8CommonOrder() {
        ObjectLinks x = plain(16, 1);
        x.name(0, 20, 3, 0, 0);
        x.name(0, 21, 1, 0, 0);
        x.name(0, 22, 2, 1, 2);
        x.name(1, 21, 2, 0, 4);
        x.name(1, 20, 2, 3, 8);
        x.name(1, 22, 2, 0, 3);
        x.section(1, 3, 2, 5);
        x.name(1, 30, 0, 1, 0);
        x.name(0, 30, 3, 0, 0);
        for (int n = 1; n < 5; n++) {
            x.reference(0, 0, 4 * n - 4, 0, n, 0);
        }
        chooseAll(x, 0, 1);
        check.due("8 commons behind EMPTY, by first coming as commons", 40, () -> x.link(0, 0));
        check.due("8 EMPTY", 16, () -> x.nameAt(30));
        check.due("8 22 first", 22, () -> x.nameAt(22));
        check.due("8 then 21, weak at first", 25, () -> x.nameAt(21));
        check.due("8 then 20, wanted at first", 32, () -> x.nameAt(20));
        check.due("8 gaps", 1 + 3, () -> x.count(4));
        check.due("8 commons", 3, () -> x.count(5));
        chooseAll(x, 1, 0);
        check.due("8 the other way", 43, () -> x.link(0, 0));
        check.due("8 21 first", 21, () -> x.nameAt(21));
        check.due("8 then 20", 32, () -> x.nameAt(20));
        check.due("8 then 22", 40, () -> x.nameAt(22));
    }

    private static void promise8EmptyImages() {
        ObjectLinks x = plain(0);
        x.choose(0);
        check.due("8 length 0", 0, () -> x.link(0, 7));
        check.due("8 yet there is an image", 0, () -> x.placeOf(0, 0));
        check.due("8 the name", 7, () -> x.nameAt(0));
        check.due("8 one section", 1, () -> x.count(3));
        check.thrown("8 no byte", INDEX, () -> x.image(0));
        x.section(0, 2, 3, 0);
        x.name(0, 1, 0, 1, 0);
        x.choose(0);
        check.due("8 only a gap", 1, () -> x.link(1, 7));
        check.due("8 behind the gap", 1, () -> x.placeOf(0, 1));
        check.due("8 gap", 1, () -> x.count(4));
        imageIs("8 only a gap", x, 0, 0);
    }

    private static void promise8Ways() {
        ObjectLinks x = plain(20);
        x.section(0, 1, 0, 8);
        x.name(0, 50, 0, 1, 8);
        for (int i = 0; i < 20; i += 4) {
            x.bytes(0, 0, i, 0x77777777);
        }
        x.reference(0, 0, 0, 0, 1, -0x7FFFFFFF);
        x.reference(0, 0, 5, 1, 1, 1000);
        x.reference(0, 0, 8, 2, 0, -300);
        x.reference(0, 0, 11, 3, 0, -1);
        x.reference(0, 0, 13, 4, 1, 0x7FFFFFFF);
        x.reference(0, 0, 16, 4, 0, 32768 - 1000);
        x.reference(0, 0, 18, 4, 0, 32768 - 1000 - 1);
        x.choose(0);
        check.due("8 ways", 28, () -> x.link(0, 1000));
        int whole = 1028 - 0x7FFFFFFF;
        imageIs("8 way 0", x, 0, whole >>> 24, whole >>> 16 & 255, whole >>> 8 & 255, whole & 255);
        imageIs("8 beside", x, 4, 0x77);
        imageIs("8 way 1", x, 5, 2028 >> 8, 2028 & 255, 0x77);
        int down = 1000 - 300 - 1008;
        imageIs("8 way 2", x, 8, down >> 8 & 255, down & 255, 0x77);
        imageIs("8 way 3", x, 11, (999 - 1011) / 4 & 255, 0x77);
        int high = 1028 + 0x7FFFFFFF + 32768;
        imageIs("8 way 4", x, 13, high >>> 24, high >>> 16 & 255, 0x77);
        imageIs("8 way 4, up", x, 16, 0, 1);
        imageIs("8 way 4, not up", x, 18, 0, 0);
    }

    private static int linkOne(int way, int addend, int base) {
        ObjectLinks x = plain(8);
        x.reference(0, 0, 4, way, 0, addend);
        x.choose(0);
        try {
            return x.link(0, base) == 8 ? 0 : -1;
        } catch (UnsupportedOperationException e) {
            return x.fault(0);
        }
    }

    private static void promise8WayRanges() {
        int[][] rows = {
            {0, Integer.MIN_VALUE, 0, 0}, {0, Integer.MAX_VALUE, 1000000, 0},
            {1, -10, 10, 0}, {1, -11, 10, 5}, {1, 65525, 10, 0}, {1, 65526, 10, 5},
            {1, Integer.MAX_VALUE, 1000000, 5}, {1, Integer.MIN_VALUE, 0, 5},
            {2, 4 + 32767, 10, 0}, {2, 4 + 32768, 10, 5}, {2, 4 - 32768, 10, 0}, {2, 4 - 32769, 10, 5},
            {2, Integer.MIN_VALUE, 0, 5}, {2, Integer.MAX_VALUE, 1000000, 5},
            {3, 4 + 127 * 4, 0, 0}, {3, 4 + 128 * 4, 0, 5}, {3, 4 - 128 * 4, 0, 0}, {3, 4 - 129 * 4, 0, 5},
            {3, 5, 0, 4}, {3, 6, 0, 4}, {3, 7, 0, 4}, {3, 3, 0, 4}, {3, 4 + 128 * 4 + 1, 0, 4},
            {3, 4 - 128 * 4 - 1, 0, 4}, {3, Integer.MAX_VALUE, 0, 4}, {3, Integer.MIN_VALUE, 0, 5},
            {4, Integer.MIN_VALUE, 0, 0}, {4, Integer.MAX_VALUE, 1000000, 0},
        };
        for (int[] row : rows) {
            check.due("8 way " + row[0] + " addend " + row[1] + " base " + row[2], row[3],
                    () -> linkOne(row[0], row[1], row[2]));
        }
    }

    private static void promise8LaterOverEarlier() {
        ObjectLinks x = plain(4);
        x.reference(0, 0, 0, 0, 0, 0x01020304);
        x.reference(0, 0, 1, 1, 0, 0x0506);
        x.choose(0);
        x.link(0, 0);
        imageIs("8 later over earlier", x, 0, 1, 5, 6, 4);
        x.write(0);
        imageIs("8 the object keeps its own bytes", x, 0, 1, 5, 6, 4);
        for (int i = 9; i < 13; i++) {
            int at = i;
            check.due("8 the object keeps its own bytes", 0, () -> x.written(at));
        }
    }

    private static void promise8NothingStaysOfTheLast() {
        ObjectLinks x = plain(4, 4, 4);
        x.name(0, 50, 2, 0, 3);
        x.reference(0, 0, 0, 0, 1, 0);
        x.name(1, 50, 2, 5, 40);
        x.name(2, 50, 2, 0, 3);
        chooseAll(x, 0, 1);
        check.due("8 two commons", 72, () -> x.link(0, 0));
        check.due("8 two commons, the gap", 28, () -> x.count(4));
        chooseAll(x, 0);
        check.due("8 one of them", 7, () -> x.link(0, 0));
        check.due("8 one of them, no gap", 0, () -> x.count(4));
        chooseAll(x, 2);
        check.due("8 a common reached before, not now", 4, () -> x.link(2, 0));
        check.due("8 a common reached before, not now", 0, () -> x.count(5));
        check.due("8 a common reached before, not now", -1, () -> x.nameAt(50));
        chooseAll(x, 0, 1);
        x.link(0, 0);
        chooseAll(x, 0, 1);
        check.thrown("8 a fault", UNSUPPORTED, () -> x.link(2, 0));
        for (int what = 2; what <= 5; what++) {
            int asked = what;
            check.due("17 count(" + what + ") behind a fault", 0, () -> x.count(asked));
        }
    }

    private static void promise8Twelve() {
        int[] lengths = new int[12];
        java.util.Arrays.fill(lengths, 4);
        ObjectLinks x = plain(lengths);
        for (int i = 0; i < 12; i++) {
            x.name(i, (i + 1) % 12, 3, 0, 0);
            x.reference(i, 0, 0, 0, 1, 0);
            x.choose(i);
        }
        check.due("8 twelve objects in a ring", 48, () -> x.link(7, 0));
        for (int i = 0; i < 12; i++) {
            imageIs("8 twelve objects in a ring", x, 4 * i, 0, 0, 0, 4 * ((i + 1) % 12));
        }
    }

    private static void promise9Doubled() {
        ObjectLinks x = new ObjectLinks();
        for (int i = 0; i < 3; i++) {
            x.object();
            x.section(i, 0, 0, 1);
        }
        x.name(0, 1, 0, 0, 0);
        x.name(0, 2, 0, 0, 0);
        x.name(1, 5, 3, 0, 0);
        x.name(1, 2, 0, 0, 0);
        x.name(1, 1, 0, 0, 0);
        x.name(2, 7, 3, 0, 0);
        x.reference(2, 0, 1, 0, 0, 0);
        chooseAll(x, 2, 0, 1);
        check.thrown("9 doubled", UNSUPPORTED, () -> x.link(7, 0));
        faultIs("9 doubled, ahead of a missing entry", x, 1, 1, 1);
        chooseAll(x, 1, 2, 0);
        check.thrown("9 doubled", UNSUPPORTED, () -> x.link(1, 0));
        faultIs("9 doubled by objects", x, 1, 0, 0);
        chooseAll(x, 0, 2);
        check.due("9 not doubled among the chosen", 1, () -> x.link(1, 0));
        faultIs("9 no fault", x, 0, -1, -1);
    }

    private static void promise9Missing() {
        ObjectLinks x = plain(8, 8);
        x.name(0, 1, 3, 0, 0);
        x.name(0, 60, 3, 0, 0);
        x.name(0, 61, 3, 0, 0);
        x.name(1, 60, 3, 0, 0);
        x.section(0, 0, 0, 8);
        x.reference(0, 1, 0, 0, 2, 0);
        x.reference(0, 0, 8, 0, 1, 0);
        x.reference(0, 0, 0, 0, 3, 0);
        x.reference(1, 0, 0, 0, 1, 0);
        chooseAll(x, 0, 1);
        check.thrown("9 entry unknown", UNSUPPORTED, () -> x.link(-9, 0));
        faultIs("9 entry unknown", x, 2, -1, -9);
        chooseAll(x, 0, 1);
        check.thrown("9 entry only wanted", UNSUPPORTED, () -> x.link(60, 0));
        faultIs("9 entry only wanted", x, 2, -1, 60);
        chooseAll(x, 0, 1);
        check.thrown("9 reference", UNSUPPORTED, () -> x.link(0, 0));
        faultIs("9 reference, ahead of one outside", x, 2, 0, 2);
        chooseAll(x, 1, 0);
        check.thrown("9 reference", UNSUPPORTED, () -> x.link(0, 0));
        faultIs("9 reference by objects", x, 2, 1, 0);
        chooseAll(x, 0);
        check.thrown("9 what is not chosen is missing", UNSUPPORTED, () -> x.link(0, 0));
        faultIs("9 what is not chosen is missing", x, 2, 0, 1);
        chooseAll(x, 1);
        check.thrown("9 what is not chosen is no entry", UNSUPPORTED, () -> x.link(0, 0));
        faultIs("9 what is not chosen is no entry", x, 2, -1, 0);
    }

    private static int linkAtEnd(int way, int place) {
        ObjectLinks x = plain(8);
        x.reference(0, 0, place, way, 0, way == 3 ? place : 0);
        x.choose(0);
        try {
            return x.link(0, 0) == 8 ? 0 : -1;
        } catch (UnsupportedOperationException e) {
            return x.fault(0);
        }
    }

    private static void promise9Outside() {
        int[] widths = {4, 2, 2, 1, 2};
        for (int i = 0; i < widths.length; i++) {
            int way = i;
            for (int at = 0; at <= 8; at++) {
                int place = at;
                check.due("9 way " + way + " at " + place, place + widths[way] > 8 ? 3 : 0,
                        () -> linkAtEnd(way, place));
            }
        }
        ObjectLinks x = plain(4);
        x.name(0, 9, 0, 0, 4);
        x.reference(0, 0, 0, 0, 1, 0);
        x.choose(0);
        check.due("9 what it means may stand at the end", 4, () -> x.link(9, 0));
        imageIs("9 what it means may stand at the end", x, 0, 0, 0, 0, 4);
    }

    private static void promise9AsTheyCome() {
        ObjectLinks x = plain(8, 8);
        x.name(0, 1, 3, 0, 0);
        x.name(1, 0, 3, 0, 0);
        x.reference(0, 0, 0, 0, 1, 0);
        x.reference(0, 0, 4, 1, 1, -100);
        x.reference(0, 0, 8, 0, 0, 0);
        x.reference(1, 0, 0, 0, 1, 0);
        x.reference(1, 0, 2, 3, 1, 1);
        chooseAll(x, 0, 1);
        check.thrown("9 range ahead of outside", UNSUPPORTED, () -> x.link(0, 0));
        faultIs("9 range ahead of outside", x, 5, 0, 1);
        chooseAll(x, 1, 0);
        check.thrown("9 crooked, by objects", UNSUPPORTED, () -> x.link(0, 0));
        faultIs("9 crooked, by objects", x, 4, 1, 1);
        ObjectLinks y = plain(8);
        y.reference(0, 0, 8, 3, 0, 1);
        y.reference(0, 0, 0, 3, 0, 1);
        y.choose(0);
        check.thrown("9 outside ahead of crooked", UNSUPPORTED, () -> y.link(0, 0));
        faultIs("9 outside ahead of crooked", y, 3, 0, 0);
    }

    /** A section that refers to commons of 1024 bytes, but for the last one. */
    private static ObjectLinks reachingCommons(int length, int commons, int lastSize) {
        ObjectLinks x = plain(length);
        for (int i = 0; i < commons; i++) {
            x.name(0, 100 + i, 2, 0, i == commons - 1 ? lastSize : 1024);
            x.reference(0, 0, 0, 0, 1 + i, 0);
        }
        return x;
    }

    private static void promise9TooLong() {
        ObjectLinks x = reachingCommons(24, 4, 1000);
        x.choose(0);
        check.due("9 4096 bytes", 4096, () -> x.link(0, 5));
        check.due("9 last byte", 0, () -> x.image(4095));
        check.thrown("9 behind it", INDEX, () -> x.image(4096));
        ObjectLinks y = reachingCommons(24, 4, 1001);
        y.reference(0, 0, 24, 0, 0, 0);
        y.choose(0);
        check.thrown("9 4097 bytes", UNSUPPORTED, () -> y.link(0, 5));
        faultIs("9 too long, ahead of outside", y, 6, -1, -1);
        check.due("9 no image", 0, () -> y.count(2));
        check.due("9 no gap", 0, () -> y.count(4));
        check.due("9 no section", 0, () -> y.count(3));
        check.due("9 no common", 0, () -> y.count(5));
        y.name(0, 77, 3, 0, 0);
        y.reference(0, 0, 0, 0, 5, 0);
        y.choose(0);
        check.thrown("9 missing ahead of too long", UNSUPPORTED, () -> y.link(0, 5));
        faultIs("9 missing ahead of too long", y, 2, 0, 5);
        ObjectLinks z = reachingCommons(24, 4, 1000);
        z.section(0, 0, 6, 0);
        z.name(0, 9, 0, 1, 0);
        z.reference(0, 0, 0, 0, 5, 0);
        z.choose(0);
        check.thrown("9 a gap makes it too long", UNSUPPORTED, () -> z.link(0, 0));
        faultIs("9 a gap makes it too long", z, 6, -1, -1);
    }

    private static void promise9ForgottenByTheNext() {
        ObjectLinks x = plain(4);
        x.choose(0);
        x.link(0, 0);
        x.choose(0);
        check.thrown("8 fault", UNSUPPORTED, () -> x.link(3, 0));
        check.due("8 nothing is chosen then", 0, () -> x.count(1));
        check.due("8 the image before is gone", 0, () -> x.count(2));
        check.thrown("10 the image before is gone", INDEX, () -> x.image(0));
        check.due("11 the image before is gone", -1, () -> x.placeOf(0, 0));
        check.due("12 the image before is gone", -1, () -> x.nameAt(0));
        check.thrown("8 nothing is chosen then", STATE, () -> x.link(0, 0));
        check.thrown("8 base", ARGUMENT, () -> x.link(0, -1));
        faultIs("9 the latest linking's", x, 2, -1, 3);
        x.choose(0);
        x.link(0, 0);
        faultIs("9 none", x, 0, -1, -1);
        check.thrown("9 fault(3)", INDEX, () -> x.fault(3));
        check.thrown("9 fault(-1)", INDEX, () -> x.fault(-1));
        check.thrown("9 fault far", INDEX, () -> x.fault(Integer.MIN_VALUE));
    }

    private static void promise10() {
        ObjectLinks x = plain(6, 2);
        x.bytes(0, 0, 0, 0x80FF7F01);
        x.bytes(1, 0, 0, 0xFEFEFEFE);
        x.choose(0);
        x.link(0, 3);
        imageIs("10", x, 0, 0x80, 0xFF, 0x7F, 1, 0, 0);
        check.thrown("10 image(6)", INDEX, () -> x.image(6));
        check.thrown("10 image(-1)", INDEX, () -> x.image(-1));
        check.thrown("10 image far", INDEX, () -> x.image(Integer.MAX_VALUE));
        x.bytes(0, 0, 0, 0);
        imageIs("10 as it was at the linking", x, 0, 0x80, 0xFF, 0x7F, 1, 0, 0);
        x.choose(1);
        x.link(1, 0);
        imageIs("10 the next", x, 0, 0xFE, 0xFE);
        check.thrown("10 image(2)", INDEX, () -> x.image(2));
        x.section(1, 3, 3, 9);
        x.name(1, 8, 0, 1, 0);
        x.choose(0);
        x.link(0, 0);
        x.bytes(0, 0, 0, -1);
        x.choose(0);
        x.link(0, 0);
        x.choose(1);
        x.link(8, 2);
        imageIs("10 nothing of the image before", x, 0, 0, 0, 0, 0, 0, 0, 0, 0, 0, 0, 0, 0, 0, 0, 0);
    }

    private static void promise11And12() {
        ObjectLinks x = plain(4, 8);
        check.thrown("11 no object", INDEX, () -> x.placeOf(2, 0));
        check.thrown("11 object -1", INDEX, () -> x.placeOf(-1, 99));
        check.thrown("11 no section", ARGUMENT, () -> x.placeOf(0, 1));
        check.thrown("11 section -1", ARGUMENT, () -> x.placeOf(0, -1));
        check.thrown("11 section far", ARGUMENT, () -> x.placeOf(0, Integer.MAX_VALUE));
        check.due("11 no image", -1, () -> x.placeOf(0, 0));
        check.due("12 no image", -1, () -> x.nameAt(0));
        x.name(0, 1, 3, 0, 0);
        x.name(0, 30, 0, 0, 3);
        x.name(0, 31, 3, 0, 0);
        x.name(1, 32, 1, 0, 8);
        x.reference(0, 0, 0, 0, 1, 0);
        chooseAll(x, 0, 1);
        x.link(0, 100);
        check.due("11 from the base on", 4, () -> x.placeOf(1, 0));
        check.due("12 the base counted in", 104, () -> x.nameAt(1));
        check.due("12 nobody's reference, yet reached", 103, () -> x.nameAt(30));
        check.due("12 at the end", 112, () -> x.nameAt(32));
        check.due("12 only wanted", -1, () -> x.nameAt(31));
        check.due("12 unknown", -1, () -> x.nameAt(Integer.MIN_VALUE));
        x.name(1, 31, 0, 0, 0);
        x.name(1, 33, 0, 0, 0);
        x.name(1, 30, 1, 0, 0);
        x.section(1, 0, 0, 1);
        x.object();
        x.section(2, 0, 0, 4);
        x.choose(1);
        check.due("12 a name that came since", -1, () -> x.nameAt(31));
        check.due("12 a name that came since", -1, () -> x.nameAt(33));
        check.due("12 as it was", 103, () -> x.nameAt(30));
        check.due("11 a section that came since", -1, () -> x.placeOf(1, 1));
        check.due("11 an object that came since", -1, () -> x.placeOf(2, 0));
        check.due("11 as it was", 4, () -> x.placeOf(1, 0));
        x.link(33, 7);
        check.due("11 not chosen", -1, () -> x.placeOf(0, 0));
        check.due("12 not chosen", -1, () -> x.nameAt(0));
        check.due("11 the next", 0, () -> x.placeOf(1, 0));
        check.due("12 the next", 7, () -> x.nameAt(31));
    }

    private static void promise17() {
        ObjectLinks x = plain(3, 5);
        x.name(0, 1, 3, 0, 0);
        x.section(1, 3, 2, 6);
        x.name(1, 40, 1, 1, 2);
        x.name(1, 41, 2, 4, 10);
        x.reference(1, 0, 0, 1, 1, 0);
        x.reference(1, 0, 2, 1, 2, 0);
        x.choose(1);
        x.choose(0);
        check.due("17 objects", 2, () -> x.count(0));
        check.due("17 chosen", 2, () -> x.count(1));
        check.due("17 sections of the latest", 2, () -> x.count(7));
        check.due("17 names of the latest", 3, () -> x.count(8));
        check.due("17 references of the latest", 2, () -> x.count(9));
        x.link(1, 1);
        // 1 .. 6 code, 8 .. 14 empty, 16 .. 26 the common
        check.due("17 chosen", 0, () -> x.count(1));
        check.due("17 length", 25, () -> x.count(2));
        check.due("17 sections in it", 2, () -> x.count(3));
        check.due("17 gaps", 2 + 2, () -> x.count(4));
        check.due("17 commons", 1, () -> x.count(5));
        check.due("17 written", 0, () -> x.count(6));
        int many = x.write(0);
        check.due("17 written", many, () -> x.count(6));
        check.due("17 10", -1, () -> x.count(10));
        check.due("17 -1", -1, () -> x.count(-1));
        check.due("17 far", -1, () -> x.count(Integer.MIN_VALUE));
        x.object();
        check.due("17 the latest has none", 0, () -> x.count(7));
        check.due("17 the latest has none", 0, () -> x.count(8));
        check.due("17 the latest has none", 0, () -> x.count(9));
        x.section(0, 0, 0, 0);
        check.due("17 not of another object", 0, () -> x.count(7));
    }
}
