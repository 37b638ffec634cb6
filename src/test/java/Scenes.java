/** What several tests begin with. */
final class Scenes {
    /** The names of lively(). */
    static final int[] LIVELY_NAMES = {0, 1, 7, 8, 9};

    private Scenes() {
    }

    static Subject objects(int many) {
        Subject x = new Subject();
        for (int i = 0; i < many; i++) {
            x.object();
        }
        return x;
    }

    /** Objects, each with one CODE section of a length, begun by a strong name: the object's number. */
    static Subject plain(int... lengths) {
        Subject x = new Subject();
        for (int i = 0; i < lengths.length; i++) {
            x.object();
            x.section(i, 0, 0, lengths[i]);
            x.name(i, i, 0, 0, 0);
        }
        return x;
    }

    /** An image, something written, and one of its two objects chosen anew: a change would be seen. */
    static Subject lively() {
        Subject x = plain(6, 5);
        x.section(0, 3, 2, 5);
        x.section(1, 1, 1, 3);
        x.bytes(0, 0, 0, 0x81828384);
        x.bytes(1, 0, 0, 0x91929394);
        x.name(0, 1, 3, 0, 0);
        x.name(0, 8, 0, 1, 5);
        x.name(0, 7, 2, 3, 4);
        x.name(1, 7, 2, 1, 9);
        x.name(1, 9, 1, 1, 2);
        x.reference(0, 0, 4, 1, 1, 5);
        x.reference(0, 0, 0, 4, 3, 70000);
        x.reference(1, 0, 0, 2, 2, -3);
        x.chooseAll(1, 0);
        x.link(0, 3);
        x.write(0);
        x.alter(1, 200);
        x.choose(1);
        return x;
    }

    /** Links; the fault is told as an answer, 0 when there is none. */
    static int faultOfLink(Subject x, int entry, int base) {
        try {
            x.link(entry, base);
            return 0;
        } catch (UnsupportedOperationException e) {
            return x.fault(0);
        }
    }
}
