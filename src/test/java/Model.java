import java.util.ArrayDeque;
import java.util.ArrayList;
import java.util.Arrays;
import java.util.Deque;
import java.util.LinkedHashMap;
import java.util.LinkedHashSet;
import java.util.List;
import java.util.Map;
import java.util.Set;

/**
 * The document once more, written for plainness and with the whole library, so that runs of calls
 * can be compared. It shares nothing with the class that it checks.
 */
final class Model implements Face {
    static final class Sec {
        int kind;
        int power;
        byte[] bytes;
    }

    static final class Nam {
        int number;
        int sort;
        int section;
        int place;
    }

    static final class Ref {
        int section;
        int place;
        int way;
        int name;
        int addend;
    }

    static final class Obj {
        final List<Sec> sections = new ArrayList<>();
        final List<Nam> names = new ArrayList<>();
        final List<Ref> references = new ArrayList<>();
    }

    /** A section of an object, or (section -1) a common of a number. */
    record Thing(int object, int section, int number) {
    }

    /** What a name means: a thing and a place in it. */
    record Meant(Thing thing, int place) {
    }

    static final class Fault extends Exception {
        private static final long serialVersionUID = 1L;
        final int sort;
        final int object;
        final int number;

        Fault(int sort, int object, int number) {
            this.sort = sort;
            this.object = object;
            this.number = number;
        }
    }

    private final List<Obj> objects = new ArrayList<>();
    private List<Integer> chosen = new ArrayList<>();
    private int[] fault = {0, -1, -1};
    private byte[] image;
    private Map<Thing, Integer> places = new LinkedHashMap<>();
    private Map<Integer, Integer> nameAddresses = new LinkedHashMap<>();
    private int imageBase;
    private int gaps;
    private byte[] written = new byte[0];

    @Override
    public int object() {
        if (objects.size() == 12) {
            throw new UnsupportedOperationException();
        }
        objects.add(new Obj());
        return objects.size() - 1;
    }

    private Obj get(int object) {
        if (object < 0 || object >= objects.size()) {
            throw new IndexOutOfBoundsException();
        }
        return objects.get(object);
    }

    private static void need(boolean so) {
        if (!so) {
            throw new IllegalArgumentException();
        }
    }

    private static boolean within(int v, int from, int to) {
        return from <= v && v <= to;
    }

    private static int added(Obj o, Sec s) {
        if (o.sections.size() == 8) {
            throw new UnsupportedOperationException();
        }
        o.sections.add(s);
        return o.sections.size() - 1;
    }

    private static int section(Obj o, int kind, int power, int length) {
        need(within(kind, 0, 3) && within(power, 0, 6) && within(length, 0, 128));
        Sec s = new Sec();
        s.kind = kind;
        s.power = power;
        s.bytes = new byte[length];
        return added(o, s);
    }

    private static int name(Obj o, int number, int sort, int section, int place) {
        need(within(sort, 0, 3));
        if (sort <= 1) {
            need(within(section, 0, o.sections.size() - 1));
            need(within(place, 0, o.sections.get(section).bytes.length));
        } else if (sort == 2) {
            need(within(section, 0, 6) && within(place, 1, 1024));
        } else {
            need(section == 0 && place == 0);
        }
        need(o.names.stream().noneMatch(n -> n.number == number));
        if (o.names.size() == 12) {
            throw new UnsupportedOperationException();
        }
        Nam n = new Nam();
        n.number = number;
        n.sort = sort;
        n.section = section;
        n.place = place;
        o.names.add(n);
        return o.names.size() - 1;
    }

    private static int reference(Obj o, int[] told) {
        need(within(told[0], 0, o.sections.size() - 1));
        Sec s = o.sections.get(told[0]);
        need(s.kind != 3 && within(told[1], 0, s.bytes.length));
        need(within(told[2], 0, 4) && within(told[3], 0, o.names.size() - 1));
        if (o.references.size() == 16) {
            throw new UnsupportedOperationException();
        }
        Ref r = new Ref();
        r.section = told[0];
        r.place = told[1];
        r.way = told[2];
        r.name = told[3];
        r.addend = told[4];
        o.references.add(r);
        return o.references.size() - 1;
    }

    @Override
    public int section(int object, int kind, int power, int length) {
        return section(get(object), kind, power, length);
    }

    @Override
    public int name(int object, int number, int sort, int section, int place) {
        return name(get(object), number, sort, section, place);
    }

    @Override
    public int reference(int object, int section, int place, int way, int name, int addend) {
        return reference(get(object), new int[] {section, place, way, name, addend});
    }

    @Override
    public int bytes(int object, int section, int at, int v) {
        Obj o = get(object);
        need(within(section, 0, o.sections.size() - 1));
        Sec s = o.sections.get(section);
        need(s.kind != 3 && within(at, 0, s.bytes.length - 1));
        byte[] four = {(byte) (v >> 24), (byte) (v >> 16), (byte) (v >> 8), (byte) v};
        int many = 0;
        while (many < 4 && at + many < s.bytes.length) {
            s.bytes[at + many] = four[many];
            many++;
        }
        return many;
    }

    @Override
    public int choose(int object) {
        get(object);
        need(!chosen.contains(object));
        chosen.add(object);
        return chosen.size();
    }

    @Override
    public int link(int entry, int base) {
        need(within(base, 0, 1000000));
        if (chosen.isEmpty()) {
            throw new IllegalStateException();
        }
        List<Integer> taken = chosen;
        chosen = new ArrayList<>();
        image = null;
        places = new LinkedHashMap<>();
        nameAddresses = new LinkedHashMap<>();
        gaps = 0;
        fault = new int[] {0, -1, -1};
        try {
            image = linked(taken, entry, base);
            imageBase = base;
        } catch (Fault f) {
            fault = new int[] {f.sort, f.object, f.number};
            places = new LinkedHashMap<>();
            nameAddresses = new LinkedHashMap<>();
            gaps = 0;
            throw new UnsupportedOperationException();
        }
        return image.length;
    }

    private Meant meant(List<Integer> taken, int number) {
        for (int sort : new int[] {0, 2, 1}) {
            for (int o : taken) {
                for (Nam n : objects.get(o).names) {
                    if (n.number == number && n.sort == sort) {
                        return sort == 2 ? new Meant(new Thing(-1, -1, number), 0)
                                : new Meant(new Thing(o, n.section, 0), n.place);
                    }
                }
            }
        }
        return null;
    }

    private byte[] linked(List<Integer> taken, int entry, int base) throws Fault {
        Set<Integer> strong = new LinkedHashSet<>();
        for (int o : taken) {
            List<Nam> names = objects.get(o).names;
            for (int n = 0; n < names.size(); n++) {
                if (names.get(n).sort == 0 && !strong.add(names.get(n).number)) {
                    throw new Fault(1, o, n);
                }
            }
        }
        Set<Thing> reached = reached(taken, entry);
        for (int o : taken) {
            Obj obj = objects.get(o);
            for (int r = 0; r < obj.references.size(); r++) {
                Ref ref = obj.references.get(r);
                if (reached.contains(new Thing(o, ref.section, 0))
                        && meant(taken, obj.names.get(ref.name).number) == null) {
                    throw new Fault(2, o, r);
                }
            }
        }
        byte[] all = laidOut(taken, reached, base);
        for (int o : taken) {
            Obj obj = objects.get(o);
            for (int r = 0; r < obj.references.size(); r++) {
                Ref ref = obj.references.get(r);
                Thing home = new Thing(o, ref.section, 0);
                if (reached.contains(home)) {
                    Meant m = meant(taken, obj.names.get(ref.name).number);
                    int sort = workedIn(all, base, obj.sections.get(ref.section).bytes.length, ref,
                            new long[] {places.get(home), places.get(m.thing()) + m.place()});
                    if (sort != 0) {
                        throw new Fault(sort, o, r);
                    }
                }
            }
        }
        for (int o : taken) {
            for (Nam n : objects.get(o).names) {
                Meant m = meant(taken, n.number);
                if (m != null && places.containsKey(m.thing())) {
                    nameAddresses.put(n.number, places.get(m.thing()) + m.place());
                }
            }
        }
        return all;
    }

    private Set<Thing> reached(List<Integer> taken, int entry) throws Fault {
        Meant first = meant(taken, entry);
        if (first == null) {
            throw new Fault(2, -1, entry);
        }
        Set<Thing> reached = new LinkedHashSet<>();
        Deque<Thing> open = new ArrayDeque<>();
        open.push(first.thing());
        while (!open.isEmpty()) {
            Thing t = open.pop();
            if (reached.add(t) && t.section() >= 0) {
                Obj obj = objects.get(t.object());
                for (Ref ref : obj.references) {
                    Meant m = ref.section == t.section() ? meant(taken, obj.names.get(ref.name).number) : null;
                    if (m != null) {
                        open.push(m.thing());
                    }
                }
            }
        }
        return reached;
    }

    private byte[] laidOut(List<Integer> taken, Set<Thing> reached, int base) throws Fault {
        byte[] all = new byte[1 << 20];
        int at = base;
        for (int kind = 0; kind < 4; kind++) {
            for (int o : taken) {
                for (int s = 0; s < objects.get(o).sections.size(); s++) {
                    Sec sec = objects.get(o).sections.get(s);
                    if (sec.kind == kind && reached.contains(new Thing(o, s, 0))) {
                        at = behindGap(at, sec.power);
                        places.put(new Thing(o, s, 0), at);
                        System.arraycopy(sec.bytes, 0, all, at - base, sec.bytes.length);
                        at += sec.bytes.length;
                    }
                }
            }
        }
        for (int o : taken) {
            for (Nam n : objects.get(o).names) {
                Thing t = new Thing(-1, -1, n.number);
                if (n.sort == 2 && reached.contains(t) && !places.containsKey(t)) {
                    int[] most = mostOf(taken, n.number);
                    at = behindGap(at, most[0]);
                    places.put(t, at);
                    at += most[1];
                }
            }
        }
        if (at - base > 4096) {
            throw new Fault(6, -1, -1);
        }
        return Arrays.copyOf(all, at - base);
    }

    private int behindGap(int at, int power) {
        int place = at;
        while (place % (1 << power) != 0) {
            place++;
        }
        gaps += place - at;
        return place;
    }

    private int[] mostOf(List<Integer> taken, int number) {
        int[] most = {0, 0};
        for (int o : taken) {
            for (Nam n : objects.get(o).names) {
                if (n.number == number && n.sort == 2) {
                    most[0] = Math.max(most[0], n.section);
                    most[1] = Math.max(most[1], n.place);
                }
            }
        }
        return most;
    }

    private static int workedIn(byte[] all, int base, int length, Ref ref, long[] homeAndTarget) {
        int width = ref.way == 0 ? 4 : ref.way == 3 ? 1 : 2;
        if (ref.place + width > length) {
            return 3;
        }
        long p = homeAndTarget[0] + ref.place;
        long sa = homeAndTarget[1] + ref.addend;
        long value = sa;
        if (ref.way == 1 && (sa < 0 || sa >= 65536)) {
            return 5;
        }
        if (ref.way == 2) {
            value = sa - p;
            if (value != (short) value) {
                return 5;
            }
        }
        if (ref.way == 3) {
            if ((sa - p) % 4 != 0) {
                return 4;
            }
            value = (sa - p) / 4;
            if (value != (byte) value) {
                return 5;
            }
        }
        if (ref.way == 4) {
            value = ((int) homeAndTarget[1] + ref.addend + 32768) >>> 16;
        }
        int at = (int) (p - base);
        for (int i = width - 1; i >= 0; i--) {
            all[at + i] = (byte) value;
            value >>= 8;
        }
        return 0;
    }

    @Override
    public int fault(int what) {
        if (!within(what, 0, 2)) {
            throw new IndexOutOfBoundsException();
        }
        return fault[what];
    }

    @Override
    public int image(int i) {
        if (image == null || !within(i, 0, image.length - 1)) {
            throw new IndexOutOfBoundsException();
        }
        return image[i] & 255;
    }

    @Override
    public int placeOf(int object, int section) {
        need(within(section, 0, get(object).sections.size() - 1));
        Integer at = places.get(new Thing(object, section, 0));
        return at == null ? -1 : at - imageBase;
    }

    @Override
    public int nameAt(int number) {
        return nameAddresses.getOrDefault(number, -1);
    }

    @Override
    public int write(int object) {
        Obj o = get(object);
        List<Integer> all = new ArrayList<>(List.of(79, 66, o.sections.size(), o.names.size(), o.references.size()));
        for (Sec s : o.sections) {
            all.addAll(List.of(s.kind, s.power, s.bytes.length / 256, s.bytes.length % 256));
            for (int i = 0; s.kind != 3 && i < s.bytes.length; i++) {
                all.add(s.bytes[i] & 255);
            }
        }
        for (Nam n : o.names) {
            all.addAll(four(n.number));
            all.addAll(List.of(n.sort, n.section, n.place / 256, n.place % 256));
        }
        for (Ref r : o.references) {
            all.addAll(List.of(r.section, r.place / 256, r.place % 256, r.way, r.name));
            all.addAll(four(r.addend));
        }
        int sum = sum(all);
        all.add(sum / 256);
        all.add(sum % 256);
        written = new byte[all.size()];
        for (int i = 0; i < written.length; i++) {
            written[i] = (byte) (int) all.get(i);
        }
        return written.length;
    }

    private static List<Integer> four(int v) {
        return List.of(v >>> 24, v >>> 16 & 255, v >>> 8 & 255, v & 255);
    }

    private static int sum(List<Integer> all) {
        long sum = 0;
        for (int i = 0; i < all.size(); i++) {
            sum += (long) all.get(i) * (i + 1);
        }
        return (int) (sum % 65536);
    }

    @Override
    public int written(int i) {
        if (!within(i, 0, written.length - 1)) {
            throw new IndexOutOfBoundsException();
        }
        return written[i] & 255;
    }

    @Override
    public int alter(int i, int v) {
        int before = written(i);
        need(within(v, 0, 255));
        written[i] = (byte) v;
        return before;
    }

    @Override
    public int read(int cut) {
        need(within(cut, 0, written.length));
        Obj o;
        try {
            o = parsed(Arrays.copyOf(written, written.length - cut));
        } catch (UnsupportedOperationException e) {
            throw new IllegalArgumentException();
        }
        if (objects.size() == 12) {
            throw new UnsupportedOperationException();
        }
        objects.add(o);
        return objects.size() - 1;
    }

    private static Obj parsed(byte[] all) {
        need(all.length >= 2);
        Deque<Integer> rest = new ArrayDeque<>();
        for (int i = 0; i < all.length - 2; i++) {
            rest.add(all[i] & 255);
        }
        need(sum(new ArrayList<>(rest)) == (all[all.length - 2] & 255) * 256 + (all[all.length - 1] & 255));
        need(next(rest, 1) == 79 && next(rest, 1) == 66);
        int[] many = {next(rest, 1), next(rest, 1), next(rest, 1)};
        Obj o = new Obj();
        for (int i = 0; i < many[0]; i++) {
            section(o, next(rest, 1), next(rest, 1), next(rest, 2));
            Sec s = o.sections.get(i);
            for (int b = 0; s.kind != 3 && b < s.bytes.length; b++) {
                s.bytes[b] = (byte) next(rest, 1);
            }
        }
        for (int i = 0; i < many[1]; i++) {
            name(o, next(rest, 4), next(rest, 1), next(rest, 1), next(rest, 2));
        }
        for (int i = 0; i < many[2]; i++) {
            reference(o, new int[] {next(rest, 1), next(rest, 2), next(rest, 1), next(rest, 1), next(rest, 4)});
        }
        need(rest.isEmpty());
        return o;
    }

    private static int next(Deque<Integer> rest, int width) {
        int v = 0;
        for (int i = 0; i < width; i++) {
            need(!rest.isEmpty());
            v = v * 256 + rest.remove();
        }
        return v;
    }

    @Override
    public int count(int what) {
        Obj latest = objects.isEmpty() ? null : objects.get(objects.size() - 1);
        return switch (what) {
            case 0 -> objects.size();
            case 1 -> chosen.size();
            case 2 -> image == null ? 0 : image.length;
            case 3 -> (int) places.keySet().stream().filter(t -> t.section() >= 0).count();
            case 4 -> gaps;
            case 5 -> (int) places.keySet().stream().filter(t -> t.section() < 0).count();
            case 6 -> written.length;
            case 7 -> latest == null ? -1 : latest.sections.size();
            case 8 -> latest == null ? -1 : latest.names.size();
            case 9 -> latest == null ? -1 : latest.references.size();
            default -> -1;
        };
    }
}
