import java.util.Arrays;

/** Rows of bytes as the document has them, made without the class. */
final class Packed {
    private Packed() {
    }

    static int[] row(int... values) {
        return values;
    }

    static int[] joined(int[]... parts) {
        int[] all = {};
        for (int[] part : parts) {
            int from = all.length;
            all = Arrays.copyOf(all, from + part.length);
            System.arraycopy(part, 0, all, from, part.length);
        }
        return all;
    }

    static int[] repeated(int times, int... part) {
        int[] all = {};
        for (int i = 0; i < times; i++) {
            all = joined(all, part);
        }
        return all;
    }

    static int[] withSum(int... body) {
        long sum = 0;
        for (int i = 0; i < body.length; i++) {
            sum += (long) body[i] * (i + 1);
        }
        return joined(body, row((int) (sum >> 8 & 255), (int) (sum & 255)));
    }

    /** A new subject whose object 0 is long enough written for any row of up to 400 bytes to stand in its place. */
    static Subject roomy() {
        Subject x = new Subject();
        x.object();
        for (int i = 0; i < 3; i++) {
            x.section(0, 0, 0, 128);
        }
        return x;
    }

    /** Puts bytes in the place of what was written last; the rest of it is cut. */
    static int readAs(Subject x, int... bytes) {
        int many = x.write(0);
        for (int i = 0; i < bytes.length; i++) {
            x.alter(i, bytes[i]);
        }
        return x.read(many - bytes.length);
    }
}
