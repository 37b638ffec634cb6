/**
 * Objects of sections, names and references, linked to one image, and objects
 * written as bytes and read again. The promises stand in DOC.md.
 */
public final class ObjectLinks {
    public static final int NONE = -1;

    private static final int MOST_OBJECTS = 12;
    private static final int MOST_SECTIONS = 8;
    private static final int MOST_NAMES = 12;
    private static final int MOST_REFERENCES = 16;
    private static final int MOST_BYTES = 128;
    private static final int MOST_POWER = 6;
    private static final int MOST_COMMON = 1024;
    private static final int MOST_BASE = 1000000;
    private static final int MOST_IMAGE = 4096;
    private static final int ALL_SECTIONS = MOST_OBJECTS * MOST_SECTIONS;
    private static final int ALL_NAMES = MOST_OBJECTS * MOST_NAMES;

    private static final int KINDS = 4;
    private static final int EMPTY = 3;

    private static final int STRONG = 0;
    private static final int WEAK = 1;
    private static final int COMMON = 2;
    private static final int WANTED = 3;

    private static final int DOUBLED = 1;
    private static final int MISSING = 2;
    private static final int OUTSIDE = 3;
    private static final int CROOKED = 4;
    private static final int OUT_OF_RANGE = 5;
    private static final int TOO_LONG = 6;

    /** How many bytes a reference takes, by its way. */
    private static final int[] WIDTHS = {4, 2, 2, 1, 2};

    private static final int MARK = 79 * 256 + 66;
    private static final int HEAD_BYTES = 5;
    private static final int SECTION_BYTES = 4;
    private static final int NAME_BYTES = 8;
    private static final int REFERENCE_BYTES = 9;
    private static final int SUM_BYTES = 2;
    private static final int MOST_WRITTEN = HEAD_BYTES + MOST_SECTIONS * (SECTION_BYTES + MOST_BYTES)
            + MOST_NAMES * NAME_BYTES + MOST_REFERENCES * REFERENCE_BYTES + SUM_BYTES;

    private final Unit[] units;
    private int unitCount;
    private final Linker linker;
    private final Octets octets;

    public ObjectLinks() {
        units = new Unit[MOST_OBJECTS];
        linker = new Linker();
        octets = new Octets();
    }

    public int object() throws UnsupportedOperationException {
        if (unitCount >= MOST_OBJECTS) {
            throw new UnsupportedOperationException("there are twelve objects");
        }
        return keep(new Unit());
    }

    public int section(int object, int kind, int power, int length)
            throws IndexOutOfBoundsException, IllegalArgumentException, UnsupportedOperationException {
        Unit unit = known(object);
        if (!Section.canBe(kind, power, length)) {
            throw new IllegalArgumentException("no such kind, alignment or length");
        }
        if (unit.sectionCount >= MOST_SECTIONS) {
            throw new UnsupportedOperationException("there are eight sections");
        }
        return unit.addSection(new Section(kind, power, length));
    }

    public int bytes(int object, int section, int at, int v)
            throws IndexOutOfBoundsException, IllegalArgumentException {
        Section changed = known(object).sectionOrNull(section);
        if (changed == null || changed.kind == EMPTY) {
            throw new IllegalArgumentException("no such section, or it is empty");
        }
        if (at < 0 || at >= changed.data.length) {
            throw new IllegalArgumentException("the section has no such byte");
        }
        return changed.overwrite(at, v);
    }

    public int name(int object, int number, int sort, int section, int place)
            throws IndexOutOfBoundsException, IllegalArgumentException, UnsupportedOperationException {
        Unit unit = known(object);
        if (!unit.canName(number, sort, section, place)) {
            throw new IllegalArgumentException("such a name can not be, or is there already");
        }
        if (unit.nameCount >= MOST_NAMES) {
            throw new UnsupportedOperationException("there are twelve names");
        }
        return unit.addName(new Name(number, sort, section, place));
    }

    public int reference(int object, int section, int place, int way, int name, int addend)
            throws IndexOutOfBoundsException, IllegalArgumentException, UnsupportedOperationException {
        Unit unit = known(object);
        if (!unit.canRefer(section, place, way, name)) {
            throw new IllegalArgumentException("no such section, place, way or name");
        }
        if (unit.referenceCount >= MOST_REFERENCES) {
            throw new UnsupportedOperationException("there are sixteen references");
        }
        return unit.addReference(new Reference(section, place, way, name, addend));
    }

    public int choose(int object) throws IndexOutOfBoundsException, IllegalArgumentException {
        Unit unit = known(object);
        if (linker.isChosen(object)) {
            throw new IllegalArgumentException("the object is chosen already");
        }
        return linker.takeBehind(object, unit);
    }

    public int link(int entry, int base)
            throws IllegalArgumentException, IllegalStateException, UnsupportedOperationException {
        if (base < 0 || base > MOST_BASE) {
            throw new IllegalArgumentException("no such base");
        }
        if (linker.chosen == 0) {
            throw new IllegalStateException("nothing is chosen");
        }
        if (!linker.makeImage(entry, base)) {
            throw new UnsupportedOperationException("the linking has a fault");
        }
        return linker.length;
    }

    public int fault(int what) throws IndexOutOfBoundsException {
        switch (what) {
            case 0:
                return linker.faultSort;
            case 1:
                return linker.faultObject;
            case 2:
                return linker.faultNumber;
            default:
                throw new IndexOutOfBoundsException("a fault is told by 0, 1 and 2");
        }
    }

    public int image(int i) throws IndexOutOfBoundsException {
        if (i < 0 || i >= linker.length) {
            throw new IndexOutOfBoundsException("the image has no such byte");
        }
        return linker.content[i];
    }

    public int placeOf(int object, int section) throws IndexOutOfBoundsException, IllegalArgumentException {
        if (known(object).sectionOrNull(section) == null) {
            throw new IllegalArgumentException("no such section");
        }
        return linker.placeInImage(slotOf(object, section));
    }

    public int nameAt(int number) {
        return linker.addressOfNumber(number);
    }

    public int write(int object) throws IndexOutOfBoundsException {
        octets.store(known(object));
        return octets.length;
    }

    public int written(int i) throws IndexOutOfBoundsException {
        if (i < 0 || i >= octets.length) {
            throw new IndexOutOfBoundsException("no such byte was written");
        }
        return octets.row[i];
    }

    public int alter(int i, int v) throws IndexOutOfBoundsException, IllegalArgumentException {
        if (i < 0 || i >= octets.length) {
            throw new IndexOutOfBoundsException("no such byte was written");
        }
        if (v < 0 || v > 255) {
            throw new IllegalArgumentException("that is no byte");
        }
        int before = octets.row[i];
        octets.row[i] = v;
        return before;
    }

    public int read(int cut) throws IllegalArgumentException, UnsupportedOperationException {
        if (cut < 0 || cut > octets.length) {
            throw new IllegalArgumentException("no so many bytes to cut");
        }
        Unit unit = new Reader(octets.row, octets.length - cut).unitOrNull();
        if (unit == null) {
            throw new IllegalArgumentException("those are no object as bytes");
        }
        if (unitCount >= MOST_OBJECTS) {
            throw new UnsupportedOperationException("there are twelve objects");
        }
        return keep(unit);
    }

    public int count(int what) {
        switch (what) {
            case 0:
                return unitCount;
            case 1:
                return linker.chosen;
            case 2:
                return linker.length;
            case 3:
                return linker.sectionsIn;
            case 4:
                return linker.gapBytes;
            case 5:
                return linker.commonsIn;
            case 6:
                return octets.length;
            default:
                return countOfLatest(what);
        }
    }

    private int countOfLatest(int what) {
        Unit latest = unitOrNull(unitCount - 1);
        if (latest == null) {
            return NONE;
        }
        switch (what) {
            case 7:
                return latest.sectionCount;
            case 8:
                return latest.nameCount;
            case 9:
                return latest.referenceCount;
            default:
                return NONE;
        }
    }

    private Unit unitOrNull(int object) {
        return object >= 0 && object < unitCount ? units[object] : null;
    }

    private Unit known(int object) {
        Unit unit = unitOrNull(object);
        if (unit == null) {
            throw new IndexOutOfBoundsException("no such object");
        }
        return unit;
    }

    /** The caller has seen that there is room for one more. */
    private int keep(Unit unit) {
        units[unitCount] = unit;
        unitCount++;
        return unitCount - 1;
    }

    private static int slotOf(int object, int section) {
        return object * MOST_SECTIONS + section;
    }

    private static final class Section {
        final int kind;
        final int power;
        final int length;
        /** Bytes 0 .. 255; none of them are held for an EMPTY section. */
        final int[] data;

        Section(int kind, int power, int length) {
            this.kind = kind;
            this.power = power;
            this.length = length;
            this.data = new int[kind == EMPTY || length < 0 ? 0 : length];
        }

        static boolean canBe(int kind, int power, int length) {
            return kind >= 0 && kind < KINDS && powerCanBe(power) && length >= 0 && length <= MOST_BYTES;
        }

        static boolean powerCanBe(int power) {
            return power >= 0 && power <= MOST_POWER;
        }

        /** The place just behind the last byte counts, too. */
        boolean hasPlace(int place) {
            return place >= 0 && place <= length;
        }

        int overwrite(int at, int v) {
            int many = Math.min(4, data.length - at);
            for (int i = 0; i < many; i++) {
                data[at + i] = (v >>> (24 - 8 * i)) & 255;
            }
            return many;
        }
    }

    /** A common has its alignment's power as section and its size as place. */
    private static final class Name {
        final int number;
        final int sort;
        final int section;
        final int place;

        Name(int number, int sort, int section, int place) {
            this.number = number;
            this.sort = sort;
            this.section = section;
            this.place = place;
        }
    }

    private static final class Reference {
        final int section;
        final int place;
        final int way;
        final int name;
        final int addend;

        Reference(int section, int place, int way, int name, int addend) {
            this.section = section;
            this.place = place;
            this.way = way;
            this.name = name;
            this.addend = addend;
        }
    }

    /** One object of the document. The add methods want room, which their callers have seen to. */
    private static final class Unit {
        final Section[] sections = new Section[MOST_SECTIONS];
        int sectionCount;
        final Name[] names = new Name[MOST_NAMES];
        int nameCount;
        final Reference[] references = new Reference[MOST_REFERENCES];
        int referenceCount;

        Section sectionOrNull(int section) {
            return section >= 0 && section < sectionCount ? sections[section] : null;
        }

        int addSection(Section section) {
            sections[sectionCount] = section;
            sectionCount++;
            return sectionCount - 1;
        }

        boolean canName(int number, int sort, int section, int place) {
            return sortCanBe(sort, section, place) && !hasName(number);
        }

        private boolean sortCanBe(int sort, int section, int place) {
            switch (sort) {
                case STRONG:
                case WEAK:
                    Section home = sectionOrNull(section);
                    return home != null && home.hasPlace(place);
                case COMMON:
                    return Section.powerCanBe(section) && place >= 1 && place <= MOST_COMMON;
                case WANTED:
                    return section == 0 && place == 0;
                default:
                    return false;
            }
        }

        private boolean hasName(int number) {
            for (int i = 0; i < nameCount; i++) {
                if (names[i].number == number) {
                    return true;
                }
            }
            return false;
        }

        int addName(Name name) {
            names[nameCount] = name;
            nameCount++;
            return nameCount - 1;
        }

        boolean canRefer(int section, int place, int way, int name) {
            Section home = sectionOrNull(section);
            return home != null && home.kind != EMPTY && home.hasPlace(place)
                    && way >= 0 && way < WIDTHS.length && name >= 0 && name < nameCount;
        }

        int addReference(Reference reference) {
            references[referenceCount] = reference;
            referenceCount++;
            return referenceCount - 1;
        }
    }

    /** The bytes that were written last, each 0 .. 255. */
    private static final class Octets {
        final int[] row = new int[MOST_WRITTEN];
        int length;

        void store(Unit unit) {
            length = 0;
            put(MARK, 2);
            put(unit.sectionCount, 1);
            put(unit.nameCount, 1);
            put(unit.referenceCount, 1);
            for (int i = 0; i < unit.sectionCount; i++) {
                putSection(unit.sections[i]);
            }
            for (int i = 0; i < unit.nameCount; i++) {
                putName(unit.names[i]);
            }
            for (int i = 0; i < unit.referenceCount; i++) {
                putReference(unit.references[i]);
            }
            put(sumOf(row, length), SUM_BYTES);
        }

        private void putSection(Section section) {
            put(section.kind, 1);
            put(section.power, 1);
            put(section.length, 2);
            for (int i = 0; i < section.data.length; i++) {
                put(section.data[i], 1);
            }
        }

        private void putName(Name name) {
            put(name.number, 4);
            put(name.sort, 1);
            put(name.section, 1);
            put(name.place, 2);
        }

        private void putReference(Reference reference) {
            put(reference.section, 1);
            put(reference.place, 2);
            put(reference.way, 1);
            put(reference.name, 1);
            put(reference.addend, 4);
        }

        private void put(int value, int width) {
            for (int i = width - 1; i >= 0 && length < row.length; i--) {
                row[length] = (value >>> (8 * i)) & 255;
                length++;
            }
        }

        /** The sum over the first bytes of a row; end is at most the row's length. */
        static int sumOf(int[] row, int end) {
            int sum = 0;
            for (int i = 0; i < end; i++) {
                sum += row[i] * (i + 1);
            }
            return sum & 0xFFFF;
        }
    }

    /** Reads bytes 0 up to an end as an object. */
    private static final class Reader {
        private final int[] row;
        private final int end;
        private int at;
        /** More bytes were asked for than there are. */
        private boolean broken;

        Reader(int[] row, int end) {
            this.row = row;
            this.end = end;
        }

        Unit unitOrNull() {
            if (end < HEAD_BYTES + SUM_BYTES || take(2) != MARK) {
                return null;
            }
            int sections = take(1);
            int names = take(1);
            int references = take(1);
            if (sections > MOST_SECTIONS || names > MOST_NAMES || references > MOST_REFERENCES) {
                return null;
            }
            if (!sumIsRight()) {
                return null;
            }
            Unit unit = new Unit();
            boolean good = takeSections(unit, sections) && takeNames(unit, names)
                    && takeReferences(unit, references);
            return good && at == end - SUM_BYTES ? unit : null;
        }

        private boolean sumIsRight() {
            int told = row[end - 2] * 256 + row[end - 1];
            return Octets.sumOf(row, end - SUM_BYTES) == told;
        }

        private boolean takeSections(Unit unit, int many) {
            for (int i = 0; i < many; i++) {
                int kind = take(1);
                int power = take(1);
                int length = take(2);
                if (broken || !Section.canBe(kind, power, length)) {
                    return false;
                }
                Section section = new Section(kind, power, length);
                for (int b = 0; b < section.data.length; b++) {
                    section.data[b] = take(1);
                }
                unit.addSection(section);
            }
            return !broken;
        }

        private boolean takeNames(Unit unit, int many) {
            for (int i = 0; i < many; i++) {
                int number = take(4);
                int sort = take(1);
                int section = take(1);
                int place = take(2);
                if (broken || !unit.canName(number, sort, section, place)) {
                    return false;
                }
                unit.addName(new Name(number, sort, section, place));
            }
            return true;
        }

        private boolean takeReferences(Unit unit, int many) {
            for (int i = 0; i < many; i++) {
                int section = take(1);
                int place = take(2);
                int way = take(1);
                int name = take(1);
                int addend = take(4);
                if (broken || !unit.canRefer(section, place, way, name)) {
                    return false;
                }
                unit.addReference(new Reference(section, place, way, name, addend));
            }
            return true;
        }

        /** The sum is never taken: it is no part of what the object is read from. */
        private int take(int width) {
            if (width > end - SUM_BYTES - at) {
                broken = true;
                return 0;
            }
            int value = 0;
            for (int i = 0; i < width; i++) {
                value = (value << 8) | row[at];
                at++;
            }
            return value;
        }
    }

    /** What a name means among the chosen objects; its sort is WANTED as long as it means nothing. */
    private static final class Meaning {
        int number;
        int sort;
        /** Strong or weak: where it is defined. */
        int slot;
        int place;
        /** Common: the greatest of all commons of the name. */
        int power;
        int size;
        boolean reached;
        /** Common, and reached: where it lies, the base counted in. */
        int address;

        void begin(int newNumber) {
            number = newNumber;
            sort = WANTED;
            power = 0;
            size = 0;
            reached = false;
            address = NONE;
        }

        void define(int newSort, int newSlot, int newPlace) {
            sort = newSort;
            slot = newSlot;
            place = newPlace;
        }

        void widen(int otherPower, int otherSize) {
            sort = COMMON;
            power = Math.max(power, otherPower);
            size = Math.max(size, otherSize);
        }
    }

    /** The names of all chosen objects. It stays as it was at the linking until the next one. */
    private static final class NameTable {
        private final Meaning[] meanings = new Meaning[ALL_NAMES];
        private int size;
        /** By object and number in its list. */
        private final Meaning[] meant = new Meaning[ALL_NAMES];
        /** In the order of their first coming as commons; a strong one may have taken a name since. */
        final Meaning[] commons = new Meaning[ALL_NAMES];
        int commonCount;

        NameTable() {
            for (int i = 0; i < ALL_NAMES; i++) {
                meanings[i] = new Meaning();
            }
        }

        void clear() {
            size = 0;
            commonCount = 0;
        }

        Meaning findOrNull(int number) {
            for (int i = 0; i < size; i++) {
                if (meanings[i].number == number) {
                    return meanings[i];
                }
            }
            return null;
        }

        /** There are never more numbers than names of all objects, so there is room. */
        private Meaning findOrBegin(int number) {
            Meaning found = findOrNull(number);
            if (found != null) {
                return found;
            }
            Meaning begun = meanings[size];
            size++;
            begun.begin(number);
            return begun;
        }

        Meaning meaningOf(int object, int nameInList) {
            return meant[object * MOST_NAMES + nameInList];
        }

        /** False when the name is a second strong one. */
        boolean enter(int object, int nameInList, Name name) {
            Meaning meaning = findOrBegin(name.number);
            meant[object * MOST_NAMES + nameInList] = meaning;
            switch (name.sort) {
                case STRONG:
                    if (meaning.sort == STRONG) {
                        return false;
                    }
                    meaning.define(STRONG, slotOf(object, name.section), name.place);
                    return true;
                case WEAK:
                    if (meaning.sort == WANTED) {
                        meaning.define(WEAK, slotOf(object, name.section), name.place);
                    }
                    return true;
                case COMMON:
                    enterCommon(meaning, name);
                    return true;
                default:
                    return true;
            }
        }

        private void enterCommon(Meaning meaning, Name name) {
            if (meaning.sort == STRONG) {
                return;
            }
            if (meaning.sort != COMMON) {
                commons[commonCount] = meaning;
                commonCount++;
            }
            meaning.widen(name.section, name.place);
        }
    }

    /** What is chosen, and what the latest linking made of what was chosen then. */
    private static final class Linker {
        /** By object; only those that are or were chosen. */
        private final Unit[] units = new Unit[MOST_OBJECTS];
        private final int[] order = new int[MOST_OBJECTS];
        int chosen;

        private final NameTable table = new NameTable();
        private final boolean[] reached = new boolean[ALL_SECTIONS];
        private final int[] queue = new int[ALL_SECTIONS];
        private int queued;
        /** The base counted in; only of reached sections. */
        private final int[] places = new int[ALL_SECTIONS];

        private boolean present;
        private int base;
        final int[] content = new int[MOST_IMAGE];
        int length;
        int sectionsIn;
        int commonsIn;
        int gapBytes;

        int faultSort;
        int faultObject = NONE;
        int faultNumber = NONE;

        boolean isChosen(int object) {
            for (int i = 0; i < chosen; i++) {
                if (order[i] == object) {
                    return true;
                }
            }
            return false;
        }

        /** The caller has seen that the object is not chosen yet, so there is room. */
        int takeBehind(int object, Unit unit) {
            units[object] = unit;
            order[chosen] = object;
            chosen++;
            return chosen;
        }

        int placeInImage(int slot) {
            return present && reached[slot] ? places[slot] - base : NONE;
        }

        int addressOfNumber(int number) {
            Meaning meaning = present ? table.findOrNull(number) : null;
            return meaning == null ? NONE : addressOf(meaning);
        }

        private int addressOf(Meaning meaning) {
            if (meaning.sort == WANTED) {
                return NONE;
            }
            if (meaning.sort == COMMON) {
                return meaning.address;
            }
            return reached[meaning.slot] ? places[meaning.slot] + meaning.place : NONE;
        }

        /** False when there is a fault, and no image then. */
        boolean makeImage(int entry, int newBase) {
            forget();
            base = newBase;
            present = gatherNames() && reachFrom(entry) && nothingIsMissing() && layOut() && workIn();
            if (!present) {
                dropImage();
            }
            chosen = 0;
            return present;
        }

        private void forget() {
            dropImage();
            tell(0, NONE, NONE);
            table.clear();
            queued = 0;
            for (int i = 0; i < ALL_SECTIONS; i++) {
                reached[i] = false;
            }
        }

        private void dropImage() {
            length = 0;
            sectionsIn = 0;
            commonsIn = 0;
            gapBytes = 0;
        }

        /** Always false, so that a step of linking can end with it. */
        private boolean tell(int sort, int object, int number) {
            faultSort = sort;
            faultObject = object;
            faultNumber = number;
            return false;
        }

        private boolean gatherNames() {
            for (int i = 0; i < chosen; i++) {
                Unit unit = units[order[i]];
                for (int n = 0; n < unit.nameCount; n++) {
                    if (!table.enter(order[i], n, unit.names[n])) {
                        return tell(DOUBLED, order[i], n);
                    }
                }
            }
            return true;
        }

        private boolean reachFrom(int entry) {
            Meaning first = table.findOrNull(entry);
            if (first == null || first.sort == WANTED) {
                return tell(MISSING, NONE, entry);
            }
            reach(first);
            for (int i = 0; i < ALL_SECTIONS && i < queued; i++) {
                reachFromSection(queue[i] / MOST_SECTIONS, queue[i] % MOST_SECTIONS);
            }
            return true;
        }

        private void reachFromSection(int object, int section) {
            Unit unit = units[object];
            for (int r = 0; r < unit.referenceCount; r++) {
                if (unit.references[r].section == section) {
                    reach(table.meaningOf(object, unit.references[r].name));
                }
            }
        }

        private void reach(Meaning meaning) {
            if (meaning.sort == WANTED) {
                return;
            }
            if (meaning.sort == COMMON) {
                meaning.reached = true;
            } else if (!reached[meaning.slot]) {
                reached[meaning.slot] = true;
                queue[queued] = meaning.slot;
                queued++;
            }
        }

        private boolean nothingIsMissing() {
            for (int i = 0; i < chosen; i++) {
                Unit unit = units[order[i]];
                for (int r = 0; r < unit.referenceCount; r++) {
                    Reference reference = unit.references[r];
                    if (reached[slotOf(order[i], reference.section)]
                            && table.meaningOf(order[i], reference.name).sort == WANTED) {
                        return tell(MISSING, order[i], r);
                    }
                }
            }
            return true;
        }

        private boolean layOut() {
            for (int kind = 0; kind < KINDS; kind++) {
                for (int i = 0; i < chosen; i++) {
                    layOutKind(kind, order[i]);
                }
            }
            layOutCommons();
            if (length > MOST_IMAGE) {
                return tell(TOO_LONG, NONE, NONE);
            }
            copyBytes();
            return true;
        }

        private void layOutKind(int kind, int object) {
            Unit unit = units[object];
            for (int s = 0; s < unit.sectionCount; s++) {
                Section section = unit.sections[s];
                if (section.kind == kind && reached[slotOf(object, s)]) {
                    places[slotOf(object, s)] = nextPlace(section.power, section.length);
                    sectionsIn++;
                }
            }
        }

        private void layOutCommons() {
            for (int i = 0; i < table.commonCount; i++) {
                Meaning common = table.commons[i];
                if (common.sort == COMMON && common.reached) {
                    common.address = nextPlace(common.power, common.size);
                    commonsIn++;
                }
            }
        }

        /** Makes the image longer by a gap and what follows it. */
        private int nextPlace(int power, int size) {
            int end = base + length;
            int mask = (1 << power) - 1;
            int place = (end + mask) & ~mask;
            gapBytes += place - end;
            length = place + size - base;
            return place;
        }

        private void copyBytes() {
            for (int i = 0; i < length; i++) {
                content[i] = 0;
            }
            for (int i = 0; i < queued; i++) {
                int slot = queue[i];
                int[] data = units[slot / MOST_SECTIONS].sections[slot % MOST_SECTIONS].data;
                System.arraycopy(data, 0, content, places[slot] - base, data.length);
            }
        }

        private boolean workIn() {
            for (int i = 0; i < chosen; i++) {
                Unit unit = units[order[i]];
                for (int r = 0; r < unit.referenceCount; r++) {
                    int found = workInOne(order[i], unit.references[r]);
                    if (found != 0) {
                        return tell(found, order[i], r);
                    }
                }
            }
            return true;
        }

        /** The fault, or 0. */
        private int workInOne(int object, Reference reference) {
            int slot = slotOf(object, reference.section);
            if (!reached[slot]) {
                return 0;
            }
            int width = WIDTHS[reference.way];
            if (reference.place + width > units[object].sections[reference.section].length) {
                return OUTSIDE;
            }
            int own = places[slot] + reference.place;
            long target = (long) addressOf(table.meaningOf(object, reference.name)) + reference.addend;
            long distance = target - own;
            int found = faultOfWay(reference.way, target, distance);
            if (found == 0) {
                putInto(own - base, width, valueOfWay(reference.way, target, distance));
            }
            return found;
        }

        private static int faultOfWay(int way, long target, long distance) {
            switch (way) {
                case 1:
                    return target < 0 || target > 65535 ? OUT_OF_RANGE : 0;
                case 2:
                    return distance < -32768 || distance > 32767 ? OUT_OF_RANGE : 0;
                case 3:
                    if ((distance & 3) != 0) {
                        return CROOKED;
                    }
                    return (distance >> 2) < -128 || (distance >> 2) > 127 ? OUT_OF_RANGE : 0;
                default:
                    return 0;
            }
        }

        /** Only as many of its lowest bytes count as the way is wide. */
        private static long valueOfWay(int way, long target, long distance) {
            switch (way) {
                case 2:
                    return distance;
                case 3:
                    return distance >> 2;
                case 4:
                    return (target + 32768) >> 16;
                default:
                    return target;
            }
        }

        private void putInto(int at, int width, long value) {
            for (int i = 0; i < width; i++) {
                content[at + i] = (int) (value >> (8 * (width - 1 - i))) & 255;
            }
        }
    }
}
