/** Promises 1 to 6: a new object, object, section, bytes, name, reference. */
public final class BuildTest {
    private static final Class<IndexOutOfBoundsException> INDEX = IndexOutOfBoundsException.class;
    private static final Class<IllegalArgumentException> ARGUMENT = IllegalArgumentException.class;
    private static final Class<UnsupportedOperationException> UNSUPPORTED = UnsupportedOperationException.class;
    private static final int[] FAR = {Integer.MIN_VALUE, -2, -1, 1 << 20, Integer.MAX_VALUE};

    private static final Check check = new Check("BuildTest");

    public static void main(String[] args) {
        promise1();
        promise2();
        promise3();
        promise3Limits();
        promise4();
        promise5();
        promise5Limits();
        promise6();
        promise6Limits();
        check.end();
    }

    private static void promise1() {
        ObjectLinks x = new ObjectLinks();
        check.holds("NONE is -1", ObjectLinks.NONE == -1);
        for (int what = 0; what <= 6; what++) {
            int asked = what;
            check.due("1 count(" + what + ")", 0, () -> x.count(asked));
        }
        for (int what = 7; what <= 9; what++) {
            int asked = what;
            check.due("1 count(" + what + ")", -1, () -> x.count(asked));
        }
        check.due("1 fault(0)", 0, () -> x.fault(0));
        check.due("1 fault(1)", -1, () -> x.fault(1));
        check.due("1 fault(2)", -1, () -> x.fault(2));
        check.thrown("1 image(0)", INDEX, () -> x.image(0));
        check.thrown("1 written(0)", INDEX, () -> x.written(0));
        check.thrown("1 placeOf(0, 0)", INDEX, () -> x.placeOf(0, 0));
        check.due("1 nameAt(0)", -1, () -> x.nameAt(0));
    }

    private static void promise2() {
        ObjectLinks x = new ObjectLinks();
        for (int i = 0; i < 12; i++) {
            int number = i;
            check.due("2 object()", number, x::object);
            check.due("2 count(0)", number + 1, () -> x.count(0));
        }
        check.thrown("2 object()", UNSUPPORTED, x::object);
        check.due("2 count(0)", 12, () -> x.count(0));
    }

    private static void promise3() {
        ObjectLinks x = new ObjectLinks();
        check.thrown("3 section without an object", INDEX, () -> x.section(0, 9, 9, 999));
        x.object();
        check.thrown("3 object 1", INDEX, () -> x.section(1, 0, 0, 0));
        check.thrown("3 object -1", INDEX, () -> x.section(-1, 0, 0, 0));
        for (int kind = 0; kind < 4; kind++) {
            int asked = kind;
            check.due("3 kind " + kind, kind, () -> x.section(0, asked, 6, 128));
        }
        check.thrown("3 kind 4", ARGUMENT, () -> x.section(0, 4, 0, 0));
        check.thrown("3 power 7", ARGUMENT, () -> x.section(0, 0, 7, 0));
        check.thrown("3 length 129", ARGUMENT, () -> x.section(0, 0, 0, 129));
        check.thrown("3 EMPTY length 129", ARGUMENT, () -> x.section(0, 3, 0, 129));
        for (int far : FAR) {
            check.thrown("3 kind far", ARGUMENT, () -> x.section(0, far, 0, 0));
            check.thrown("3 power far", ARGUMENT, () -> x.section(0, 0, far, 0));
            check.thrown("3 length far", ARGUMENT, () -> x.section(0, 0, 0, far));
            check.thrown("3 object far", INDEX, () -> x.section(far, 0, 0, 0));
        }
        check.due("3 refused ones leave nothing", 4, () -> x.count(7));
        check.due("3 length 0", 4, () -> x.section(0, 0, 0, 0));
        x.write(0);
        for (int i = 0; i < 128; i++) {
            int at = 9 + i;
            check.due("3 new bytes are 0", 0, () -> x.written(at));
        }
    }

    private static void promise3Limits() {
        ObjectLinks x = new ObjectLinks();
        x.object();
        x.object();
        for (int i = 0; i < 8; i++) {
            int number = i;
            check.due("3 section", number, () -> x.section(0, 0, 0, 4));
        }
        check.thrown("3 ninth", UNSUPPORTED, () -> x.section(0, 0, 0, 4));
        check.thrown("3 ninth, of no kind", ARGUMENT, () -> x.section(0, 4, 0, 4));
        check.thrown("4 no ninth", ARGUMENT, () -> x.bytes(0, 8, 0, 1));
        check.thrown("5 no ninth", ARGUMENT, () -> x.name(0, 1, 0, 8, 0));
        check.due("5 in the eighth", 0, () -> x.name(0, 1, 0, 7, 0));
        check.thrown("6 no ninth", ARGUMENT, () -> x.reference(0, 8, 0, 0, 0, 0));
        check.thrown("11 no ninth", ARGUMENT, () -> x.placeOf(0, 8));
        check.due("3 another object's first", 0, () -> x.section(1, 0, 0, 4));
    }

    private static void promise4() {
        ObjectLinks x = new ObjectLinks();
        check.thrown("4 no object", INDEX, () -> x.bytes(0, 5, 5, 5));
        x.object();
        x.section(0, 2, 0, 6);
        x.section(0, 3, 0, 6);
        x.section(0, 0, 0, 0);
        check.thrown("4 object 1", INDEX, () -> x.bytes(1, 0, 0, 5));
        check.thrown("4 section 3", ARGUMENT, () -> x.bytes(0, 3, 0, 5));
        check.thrown("4 EMPTY", ARGUMENT, () -> x.bytes(0, 1, 0, 5));
        check.thrown("4 length 0", ARGUMENT, () -> x.bytes(0, 2, 0, 5));
        check.thrown("4 at the end", ARGUMENT, () -> x.bytes(0, 0, 6, 5));
        for (int far : FAR) {
            check.thrown("4 section far", ARGUMENT, () -> x.bytes(0, far, 0, 5));
            check.thrown("4 at far", ARGUMENT, () -> x.bytes(0, 0, far, 5));
            check.thrown("4 object far", INDEX, () -> x.bytes(far, 0, 0, 5));
        }
        check.due("4 four", 4, () -> x.bytes(0, 0, 0, 0x81828384));
        firstSectionIs(x, 0x81, 0x82, 0x83, 0x84, 0, 0);
        check.due("4 four at the end", 4, () -> x.bytes(0, 0, 2, 0xF1F2F3F4));
        firstSectionIs(x, 0x81, 0x82, 0xF1, 0xF2, 0xF3, 0xF4);
        check.due("4 three", 3, () -> x.bytes(0, 0, 3, 0x11121314));
        firstSectionIs(x, 0x81, 0x82, 0xF1, 0x11, 0x12, 0x13);
        check.due("4 one", 1, () -> x.bytes(0, 0, 5, 0x01020304));
        firstSectionIs(x, 0x81, 0x82, 0xF1, 0x11, 0x12, 0x01);
    }

    private static void firstSectionIs(ObjectLinks x, int... want) {
        x.write(0);
        for (int i = 0; i < want.length; i++) {
            int at = 9 + i;
            check.due("4 byte " + i, want[i], () -> x.written(at));
        }
    }

    private static void promise5() {
        ObjectLinks x = new ObjectLinks();
        check.thrown("5 no object", INDEX, () -> x.name(0, 1, 9, 9, 9));
        x.object();
        check.thrown("5 strong without a section", ARGUMENT, () -> x.name(0, 1, 0, 0, 0));
        x.section(0, 0, 0, 5);
        x.section(0, 3, 0, 7);
        check.thrown("5 object 1", INDEX, () -> x.name(1, 1, 0, 0, 0));
        check.due("5 strong at the end", 0, () -> x.name(0, 1, 0, 0, 5));
        check.thrown("5 strong behind the end", ARGUMENT, () -> x.name(0, 2, 0, 0, 6));
        check.due("5 weak in EMPTY, at the end", 1, () -> x.name(0, Integer.MIN_VALUE, 1, 1, 7));
        check.thrown("5 weak behind the end", ARGUMENT, () -> x.name(0, 2, 1, 1, 8));
        check.thrown("5 section 2", ARGUMENT, () -> x.name(0, 2, 1, 2, 0));
        check.due("5 common 6, 1024", 2, () -> x.name(0, -1, 2, 6, 1024));
        check.due("5 common 0, 1", 3, () -> x.name(0, 3, 2, 0, 1));
        check.thrown("5 common of size 0", ARGUMENT, () -> x.name(0, 2, 2, 0, 0));
        check.thrown("5 common of size 1025", ARGUMENT, () -> x.name(0, 2, 2, 0, 1025));
        check.thrown("5 common of power 7", ARGUMENT, () -> x.name(0, 2, 2, 7, 1));
        check.due("5 wanted", 4, () -> x.name(0, 0, 3, 0, 0));
        check.thrown("5 wanted, section 1", ARGUMENT, () -> x.name(0, 2, 3, 1, 0));
        check.thrown("5 wanted, place 1", ARGUMENT, () -> x.name(0, 2, 3, 0, 1));
        check.thrown("5 sort 4", ARGUMENT, () -> x.name(0, 2, 4, 0, 0));
        check.thrown("5 there already", ARGUMENT, () -> x.name(0, 1, 3, 0, 0));
        check.thrown("5 there already, strong", ARGUMENT, () -> x.name(0, 0, 0, 0, 0));
        for (int far : FAR) {
            check.thrown("5 sort far", ARGUMENT, () -> x.name(0, 2, far, 0, 0));
            for (int sort = 0; sort < 4; sort++) {
                int asked = sort;
                check.thrown("5 section far", ARGUMENT, () -> x.name(0, 2, asked, far, 1));
                check.thrown("5 place far", ARGUMENT, () -> x.name(0, 2, asked, 0, far));
            }
            check.thrown("5 object far", INDEX, () -> x.name(far, 2, 3, 0, 0));
        }
        check.due("5 refused ones leave nothing", 5, () -> x.count(8));
    }

    private static void promise5Limits() {
        ObjectLinks x = new ObjectLinks();
        x.object();
        x.object();
        for (int i = 0; i < 12; i++) {
            int number = i;
            check.due("5 name", number, () -> x.name(0, 100 - number, 3, 0, 0));
        }
        check.thrown("5 thirteenth", UNSUPPORTED, () -> x.name(0, 5, 3, 0, 0));
        check.thrown("5 thirteenth, there already", ARGUMENT, () -> x.name(0, 100, 3, 0, 0));
        check.thrown("5 thirteenth, of no sort", ARGUMENT, () -> x.name(0, 5, 4, 0, 0));
        check.due("5 another object's", 0, () -> x.name(1, 100, 3, 0, 0));
    }

    private static void promise6() {
        ObjectLinks x = new ObjectLinks();
        check.thrown("6 no object", INDEX, () -> x.reference(0, 9, 9, 9, 9, 9));
        x.object();
        x.section(0, 1, 0, 5);
        x.section(0, 3, 0, 5);
        check.thrown("6 no name", ARGUMENT, () -> x.reference(0, 0, 0, 0, 0, 0));
        x.name(0, 77, 3, 0, 0);
        check.thrown("6 object 1", INDEX, () -> x.reference(1, 0, 0, 0, 0, 0));
        check.thrown("6 section 2", ARGUMENT, () -> x.reference(0, 2, 0, 0, 0, 0));
        check.thrown("6 EMPTY", ARGUMENT, () -> x.reference(0, 1, 0, 0, 0, 0));
        check.thrown("6 behind the end", ARGUMENT, () -> x.reference(0, 0, 6, 0, 0, 0));
        check.thrown("6 way 5", ARGUMENT, () -> x.reference(0, 0, 0, 5, 0, 0));
        check.thrown("6 name 1", ARGUMENT, () -> x.reference(0, 0, 0, 0, 1, 0));
        check.thrown("6 a name's number is not its place in the list", ARGUMENT,
                () -> x.reference(0, 0, 0, 0, 77, 0));
        for (int far : FAR) {
            check.thrown("6 object far", INDEX, () -> x.reference(far, 0, 0, 0, 0, 0));
            check.thrown("6 section far", ARGUMENT, () -> x.reference(0, far, 0, 0, 0, 0));
            check.thrown("6 place far", ARGUMENT, () -> x.reference(0, 0, far, 0, 0, 0));
            check.thrown("6 way far", ARGUMENT, () -> x.reference(0, 0, 0, far, 0, 0));
            check.thrown("6 name far", ARGUMENT, () -> x.reference(0, 0, 0, 0, far, 0));
        }
        check.due("6 refused ones leave nothing", 0, () -> x.count(9));
        for (int way = 0; way < 5; way++) {
            int asked = way;
            check.due("6 at the end, way " + way, way,
                    () -> x.reference(0, 0, 5, asked, 0, Integer.MIN_VALUE + asked));
        }
        check.due("6 count(9)", 5, () -> x.count(9));
    }

    private static void promise6Limits() {
        ObjectLinks x = new ObjectLinks();
        x.object();
        x.section(0, 0, 0, 4);
        x.name(0, 1, 0, 0, 0);
        for (int i = 0; i < 16; i++) {
            int number = i;
            check.due("6 reference", number, () -> x.reference(0, 0, 0, 0, 0, 0));
        }
        check.thrown("6 seventeenth", UNSUPPORTED, () -> x.reference(0, 0, 0, 0, 0, 0));
        check.thrown("6 seventeenth, of no way", ARGUMENT, () -> x.reference(0, 0, 0, 9, 0, 0));
    }
}
