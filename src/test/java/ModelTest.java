import java.util.Map;
import java.util.Random;
import java.util.TreeMap;

/** Long runs of calls, the same ones each time, with the answers of the class and of the model side by side. */
public final class ModelTest {
    /** A call that the class and the model are both asked. */
    private interface Asked {
        int of(Face face);
    }

    private static final int RUNS = 3000;
    /** How many calls of a run are kept for looking at what came of the others. */
    private static final int LOOKS = 160;
    private static final int[] FAR = {Integer.MIN_VALUE, -129, -1, 4, 7, 8, 12, 16, 129, 256, 1025, 4096, 65536,
        1000001, Integer.MAX_VALUE};

    private static final Check check = new Check("ModelTest");
    /** How often each outcome came: a run that never links anything would prove nothing. */
    private static final Map<String, Integer> seen = new TreeMap<>();

    private final Subject x = new Subject();
    private final Model m = new Model();
    private final Random random;
    private final int wildness;
    private final int names;
    /** 0 anything goes; 1 long sections, so that most references fit; 2 the same, with great commons. */
    private final int style;

    private ModelTest(int seed) {
        random = new Random(seed);
        wildness = new int[] {0, 1, 3, 20}[seed % 4];
        style = seed / 4 % 3;
        names = style == 0 ? 3 + seed % 30 : style == 1 ? 4 + seed % 6 : 12;
    }

    public static void main(String[] args) {
        for (int seed = 0; seed < RUNS; seed++) {
            new ModelTest(seed).run();
        }
        System.out.println("ModelTest: " + seen);
        for (int fault = 0; fault <= 6; fault++) {
            check.holds("fault " + fault + " came often", seen.getOrDefault("fault " + fault, 0) > 100);
        }
        check.holds("many were read", seen.getOrDefault("read", 0) > 1000);
        check.holds("many changed ones were read", seen.getOrDefault("read changed", 0) > 100);
        check.holds("many changed ones were refused", seen.getOrDefault("refused changed", 0) > 100);
        check.end();
    }

    private int upTo(int most) {
        return random.nextInt(100) < wildness ? FAR[random.nextInt(FAR.length)] : random.nextInt(most + 1);
    }

    private String same(Asked call) {
        String want = Check.outcome(() -> call.of(m));
        String got = Check.outcome(() -> call.of(x));
        check.say(Subject.latestCall(), want, got);
        return want;
    }

    private void run() {
        if (style != 0) {
            lattice();
        }
        while (x.callsLeft() > LOOKS) {
            int kind = random.nextInt(100);
            if (kind < 80) {
                build();
            } else if (kind < 88) {
                linkSome();
            } else if (kind < 94) {
                writeAndRead();
            } else {
                look();
            }
        }
        lookAtAll();
    }

    /** Objects whose sections refer to one another, so that much is reached. */
    private void lattice() {
        int many = 2 + random.nextInt(4);
        for (int o = 0; o < many; o++) {
            same(Face::object);
            latticeSections(o);
            latticeNames(o, many);
            for (int r = 0; r < 12; r++) {
                refer(o, random.nextInt(3));
            }
        }
        for (int round = 0; round < 4; round++) {
            int from = random.nextInt(many);
            for (int i = 0; i < many; i++) {
                int o = (from + i) % many;
                same(f -> f.choose(o));
            }
            linkSome();
        }
    }

    private void latticeSections(int o) {
        for (int k = 0; k < 3; k++) {
            int kind = k == 0 ? random.nextInt(3) : random.nextInt(4);
            int power = random.nextInt(7);
            int length = 60 + random.nextInt(random.nextBoolean() ? 4 : 69);
            same(f -> f.section(o, kind, power, length));
        }
    }

    private void latticeNames(int o, int many) {
        for (int n = 0; n < names; n++) {
            int number = n;
            boolean own = number % many == o;
            int some = own ? random.nextInt(style == 2 ? 3 : 2) : random.nextInt(5) == 0 ? 1 : 3;
            int sort = own && style == 2 && random.nextInt(3) > 0 ? 2 : some;
            int s = sort == 3 ? 0 : random.nextInt(3);
            int place = sort == 3 ? 0 : sort == 2 ? 800 + random.nextInt(225) : random.nextInt(14) * 4;
            same(f -> f.name(o, number, sort, s, place));
        }
    }

    private int someObject() {
        return upTo(Math.max(0, m.count(0) - 1));
    }

    private void build() {
        int o = someObject();
        int kind = random.nextInt(12);
        if (m.count(0) == 0 || kind == 0 && random.nextInt(6) == 0) {
            same(Face::object);
        } else if (kind < 3) {
            int power = upTo(6);
            int length = style == 0 ? upTo(random.nextInt(4) == 0 ? 128 : 12) : 64 + upTo(64);
            int sort = upTo(3);
            same(f -> f.section(o, sort, power, length));
        } else if (kind == 3) {
            int v = random.nextInt();
            int s = upTo(3);
            int at = upTo(random.nextBoolean() ? 128 : 12);
            same(f -> f.bytes(o, s, at, v));
        } else if (kind < 7) {
            nameSomething(o);
        } else {
            refer(o, upTo(4));
        }
    }

    private void nameSomething(int o) {
        int number = upTo(names);
        int sort = style == 0 ? new int[] {0, 1, 1, 2, 2, 3, 3, 3, 3, upTo(3)}[random.nextInt(10)]
                : random.nextInt(25) == 0 ? 0 : new int[] {1, 1, 2, 2, upTo(3)}[random.nextInt(5)];
        int s = sort == 3 ? upTo(0) : upTo(4);
        int place = sort == 3 ? upTo(0)
                : sort == 2 && (style == 2 || random.nextInt(4) == 0) ? upTo(1024) : upTo(10);
        same(f -> f.name(o, number, sort, s, place));
    }

    private void refer(int o, int s) {
        int way = style == 0 || random.nextInt(3) == 0 ? upTo(4) : random.nextInt(2) * 4;
        int place = style == 0 || random.nextInt(12) == 0
                ? (style == 0 ? 0 : 52) + upTo(12)
                : 4 * random.nextInt(14);
        int name = upTo(style == 0 ? 6 : names - 1);
        int addend = switch (random.nextInt(style == 0 ? 8 : 30)) {
            case 0 -> random.nextInt();
            case 1 -> random.nextInt(140000) - 70000;
            case 2 -> random.nextInt(1200) - 600;
            default -> random.nextInt(8) * 4 - 16;
        };
        same(f -> f.reference(o, s, place, way, name, addend));
    }

    private void linkSome() {
        int many = random.nextInt(style == 0 ? 6 : 12);
        for (int i = 0; i < many; i++) {
            int o = someObject();
            same(f -> f.choose(o));
        }
        int entry = upTo(names);
        int base = new int[] {0, upTo(100), upTo(1000000)}[random.nextInt(3)];
        String answer = same(f -> f.link(entry, base));
        if (!answer.contains("State") && !answer.contains("Argument")) {
            seen.merge("fault " + m.fault(0), 1, Integer::sum);
        }
        for (int i = 0; i <= 2; i++) {
            int what = i;
            same(f -> f.fault(what));
        }
        int far = upTo(4);
        same(f -> f.fault(far));
    }

    /** Bytes are changed with the sum mended behind them, so that reading gets past the sum. */
    private void writeAndRead() {
        int o = someObject();
        same(f -> f.write(o));
        int length = m.count(6);
        boolean changed = length > 0 && random.nextInt(3) != 0;
        int cut = random.nextInt(4) == 0 ? upTo(length) : 0;
        if (changed) {
            int at = random.nextInt(Math.min(length, random.nextBoolean() ? 12 : length));
            int v = random.nextInt(3) == 0 ? upTo(255) : Math.max(0, m.written(at) + random.nextInt(3) - 1);
            same(f -> f.alter(at, v));
            if (cut <= length - 2 && cut >= 0) {
                mendSum(length - cut - 2);
            }
        }
        String answer = same(f -> f.read(cut));
        seen.merge((answer.startsWith("java") ? "refused" : "read") + (changed ? " changed" : ""), 1, Integer::sum);
    }

    private void mendSum(int end) {
        long sum = 0;
        for (int i = 0; i < end; i++) {
            sum += (long) m.written(i) * (i + 1);
        }
        int high = (int) (sum >> 8 & 255);
        int low = (int) (sum & 255);
        same(f -> f.alter(end, high));
        same(f -> f.alter(end + 1, low));
    }

    private void look() {
        int what = upTo(10);
        int i = upTo(80);
        int v = upTo(255);
        same(f -> f.count(what));
        same(f -> f.image(i));
        same(f -> f.written(i));
        lookAtPlace();
        if (random.nextInt(8) == 0) {
            same(f -> f.alter(i, v));
        }
    }

    private void lookAtPlace() {
        int o = someObject();
        int s = upTo(5);
        int number = upTo(names);
        same(f -> f.placeOf(o, s));
        same(f -> f.nameAt(number));
    }

    private void lookAtAll() {
        for (int i = -1; i <= 10; i++) {
            int what = i;
            same(f -> f.count(what));
        }
        while (x.callsLeft() >= 4) {
            int i = someTellingByte();
            int at = upTo(m.count(6));
            same(f -> f.image(i));
            same(f -> f.written(at));
            lookAtPlace();
        }
    }

    /** Most bytes of an image are 0 and tell little: others are looked for. */
    private int someTellingByte() {
        int at = upTo(m.count(2));
        for (int tries = 0; tries < 8; tries++) {
            if (at >= 0 && at < m.count(2) && m.image(at) != 0) {
                return at;
            }
            at = upTo(m.count(2));
        }
        return at;
    }
}
