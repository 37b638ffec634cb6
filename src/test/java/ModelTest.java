import java.util.Map;
import java.util.Random;
import java.util.TreeMap;

/** Long runs of calls, the same ones each time, with the answers of the class and of the model side by side. */
public final class ModelTest {
    private static final int RUNS = 1500;
    private static final int CALLS = 512;
    private static final int[] FAR = {Integer.MIN_VALUE, -129, -1, 4, 7, 8, 12, 16, 129, 256, 1025, 4096, 65536,
        1000001, Integer.MAX_VALUE};

    private static final Check check = new Check("ModelTest");
    /** How often each outcome came: a run that never links anything would prove nothing. */
    private static final Map<String, Integer> seen = new TreeMap<>();

    private final ObjectLinks x = new ObjectLinks();
    private final Model m = new Model();
    private final Random random;
    private final int wildness;
    private final int names;
    /** 0 anything goes; 1 long sections, so that most references fit; 2 the same, with great commons. */
    private final int style;

    private ModelTest(int seed) {
        random = new Random(seed);
        wildness = new int[] {0, 1, 3, 20}[seed % 4];
        style = seed / 4 % 3;
        names = style == 0 ? 3 + seed % 30 : style == 1 ? 4 + seed % 6 : 12;
    }

    public static void main(String[] args) {
        for (int seed = 0; seed < RUNS; seed++) {
            new ModelTest(seed).run();
        }
        System.out.println("ModelTest: " + seen);
        for (int fault = 0; fault <= 6; fault++) {
            check.holds("fault " + fault + " came often", seen.getOrDefault("fault " + fault, 0) > 100);
        }
        check.holds("many were read", seen.getOrDefault("read", 0) > 1000);
        check.holds("many changed ones were read", seen.getOrDefault("read changed", 0) > 100);
        check.holds("many changed ones were refused", seen.getOrDefault("refused changed", 0) > 100);
        check.end();
    }

    private int upTo(int most) {
        return random.nextInt(100) < wildness ? FAR[random.nextInt(FAR.length)] : random.nextInt(most + 1);
    }

    private String same(String call, Check.Call made, Check.Call due) {
        String want = Check.outcome(due);
        check.say(call, want, Check.outcome(made));
        return want;
    }

    private void run() {
        int budget = CALLS - (style == 0 ? 0 : lattice());
        while (budget > 60) {
            int kind = random.nextInt(100);
            budget -= kind < 80 ? build() : kind < 88 ? linkSome() : kind < 94 ? writeAndRead() : look();
        }
        lookAtAll();
    }

    /** Objects whose sections refer to one another, so that much is reached. */
    private int lattice() {
        int calls = 0;
        int many = 2 + random.nextInt(4);
        for (int i = 0; i < many; i++) {
            int o = i;
            same("object", x::object, m::object);
            for (int k = 0; k < 3; k++) {
                int kind = k == 0 ? random.nextInt(3) : random.nextInt(4);
                int power = random.nextInt(7);
                int length = 60 + random.nextInt(random.nextBoolean() ? 4 : 69);
                same("section", () -> x.section(o, kind, power, length), () -> m.section(o, kind, power, length));
            }
            for (int number = 0; number < names; number++) {
                int asked = number;
                boolean own = number % many == i;
                int sort = own ? random.nextInt(style == 2 ? 3 : 2) : random.nextInt(5) == 0 ? 1 : 3;
                int common = own && style == 2 && random.nextInt(3) > 0 ? 2 : sort;
                int s = common == 3 ? 0 : random.nextInt(3);
                int place = common == 3 ? 0 : common == 2 ? 800 + random.nextInt(225) : random.nextInt(14) * 4;
                same("name", () -> x.name(o, asked, common, s, place), () -> m.name(o, asked, common, s, place));
            }
            for (int r = 0; r < 12; r++) {
                refer(o, random.nextInt(3));
            }
            calls += 16 + names;
        }
        for (int round = 0; round < 4; round++) {
            int from = random.nextInt(many);
            for (int i = 0; i < many; i++) {
                int o = (from + i) % many;
                same("choose", () -> x.choose(o), () -> m.choose(o));
            }
            calls += many + linkSome();
        }
        return calls;
    }

    private int someObject() {
        return upTo(Math.max(0, m.count(0) - 1));
    }

    private int build() {
        int o = someObject();
        int a = upTo(6);
        int b = style == 0 ? upTo(random.nextInt(4) == 0 ? 128 : 12) : 64 + upTo(64);
        switch (random.nextInt(12)) {
            case 0:
                if (random.nextInt(6) == 0 || m.count(0) == 0) {
                    same("object", x::object, m::object);
                }
                return 1;
            case 1:
            case 2: {
                int kind = upTo(3);
                same("section", () -> x.section(o, kind, a, b), () -> m.section(o, kind, a, b));
                return 1;
            }
            case 3: {
                int v = random.nextInt();
                int s = upTo(3);
                int at = upTo(random.nextBoolean() ? 128 : 12);
                same("bytes", () -> x.bytes(o, s, at, v), () -> m.bytes(o, s, at, v));
                return 1;
            }
            case 4:
            case 5:
            case 6: {
                int number = upTo(names);
                int sort = style == 0 ? new int[] {0, 1, 1, 2, 2, 3, 3, 3, 3, upTo(3)}[random.nextInt(10)]
                        : random.nextInt(25) == 0 ? 0 : new int[] {1, 1, 2, 2, upTo(3)}[random.nextInt(5)];
                int s = sort == 3 ? upTo(0) : upTo(4);
                int place = sort == 3 ? upTo(0) : sort == 2 && (style == 2 || random.nextInt(4) == 0)
                        ? upTo(1024) : upTo(10);
                same("name", () -> x.name(o, number, sort, s, place), () -> m.name(o, number, sort, s, place));
                return 1;
            }
            default:
                return refer(o, upTo(4));
        }
    }

    private int refer(int o, int s) {
        int way = style == 0 || random.nextInt(3) == 0 ? upTo(4) : random.nextInt(2) * 4;
        int place = style == 0 || random.nextInt(12) == 0
                ? (style == 0 ? 0 : 52) + upTo(12)
                : 4 * random.nextInt(14);
        int name = upTo(style == 0 ? 6 : names - 1);
        int addend = switch (random.nextInt(style == 0 ? 8 : 30)) {
            case 0 -> random.nextInt();
            case 1 -> random.nextInt(140000) - 70000;
            case 2 -> random.nextInt(1200) - 600;
            default -> random.nextInt(8) * 4 - 16;
        };
        same("reference", () -> x.reference(o, s, place, way, name, addend),
                () -> m.reference(o, s, place, way, name, addend));
        return 1;
    }

    private int linkSome() {
        int many = random.nextInt(style == 0 ? 6 : 12);
        for (int i = 0; i < many; i++) {
            int o = someObject();
            same("choose", () -> x.choose(o), () -> m.choose(o));
        }
        int entry = upTo(names);
        int base = new int[] {0, upTo(100), upTo(1000000)}[random.nextInt(3)];
        String answer = same("link", () -> x.link(entry, base), () -> m.link(entry, base));
        if (!answer.contains("State") && !answer.contains("Argument")) {
            seen.merge("fault " + m.fault(0), 1, Integer::sum);
        }
        for (int what = 0; what <= 2; what++) {
            int asked = what;
            same("fault", () -> x.fault(asked), () -> m.fault(asked));
        }
        int far = upTo(4);
        same("fault", () -> x.fault(far), () -> m.fault(far));
        return many + 5;
    }

    /** Bytes are changed with the sum mended behind them, so that reading gets past the sum. */
    private int writeAndRead() {
        int o = someObject();
        same("write", () -> x.write(o), () -> m.write(o));
        int length = m.count(6);
        int calls = 2;
        boolean changed = length > 0 && random.nextInt(3) != 0;
        int cut = random.nextInt(4) == 0 ? upTo(length) : 0;
        if (changed) {
            int at = random.nextInt(Math.min(length, random.nextBoolean() ? 12 : length));
            int v = random.nextInt(3) == 0 ? upTo(255) : Math.max(0, m.written(at) + random.nextInt(3) - 1);
            same("alter", () -> x.alter(at, v), () -> m.alter(at, v));
            calls += 1;
            if (cut <= length - 2 && cut >= 0) {
                mendSum(length - cut - 2);
                calls += 2;
            }
        }
        String answer = same("read", () -> x.read(cut), () -> m.read(cut));
        seen.merge((answer.startsWith("java") ? "refused" : "read") + (changed ? " changed" : ""), 1, Integer::sum);
        return calls;
    }

    private void mendSum(int end) {
        long sum = 0;
        for (int i = 0; i < end; i++) {
            sum += (long) m.written(i) * (i + 1);
        }
        int high = (int) (sum >> 8 & 255);
        int low = (int) (sum & 255);
        same("alter", () -> x.alter(end, high), () -> m.alter(end, high));
        same("alter", () -> x.alter(end + 1, low), () -> m.alter(end + 1, low));
    }

    private int look() {
        int what = upTo(10);
        int i = upTo(80);
        int o = someObject();
        int s = upTo(5);
        int number = upTo(names);
        int v = upTo(255);
        same("count", () -> x.count(what), () -> m.count(what));
        same("image", () -> x.image(i), () -> m.image(i));
        same("written", () -> x.written(i), () -> m.written(i));
        same("placeOf", () -> x.placeOf(o, s), () -> m.placeOf(o, s));
        same("nameAt", () -> x.nameAt(number), () -> m.nameAt(number));
        if (random.nextInt(8) == 0) {
            same("alter", () -> x.alter(i, v), () -> m.alter(i, v));
        }
        return 6;
    }

    /** Goes beyond the 512 calls that are promised; the class holds to its answers there, too. */
    private void lookAtAll() {
        for (int i = -1; i <= 10; i++) {
            int what = i;
            same("count", () -> x.count(what), () -> m.count(what));
        }
        for (int i = -1; i <= Math.max(0, m.count(2)); i++) {
            int at = i;
            same("image", () -> x.image(at), () -> m.image(at));
        }
        for (int i = -1; i <= m.count(6); i++) {
            int at = i;
            same("written", () -> x.written(at), () -> m.written(at));
        }
        for (int i = 0; i < 12 * 8; i++) {
            int slot = i;
            same("placeOf", () -> x.placeOf(slot / 8, slot % 8), () -> m.placeOf(slot / 8, slot % 8));
        }
        for (int i = -1; i <= names + 1; i++) {
            int number = i;
            same("nameAt", () -> x.nameAt(number), () -> m.nameAt(number));
        }
    }
}
