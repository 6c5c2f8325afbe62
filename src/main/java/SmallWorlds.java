import java.util.Arrays;

/** All small worlds that keep a page of laws, and the notions that can be told of them. */
public final class SmallWorlds {
    public static final int UNKNOWN = -1, OUTSIDE = -2, STATE = -3, FULL = -4, NONE = -9;

    private static final int LARGEST = 3;
    private static final int[] TABLES = {0, 1, 16, 19683};
    private static final int PARTS = 3;
    private static final int SHIFT = 100000;

    private final Terms terms = new Terms();
    private final Page page = new Page();
    private final Table table = new Table();
    private final Catalog catalog = new Catalog(table);
    private final Notions notions = new Notions();
    private final Rows rows = new Rows(terms, catalog, notions, table);
    private final Rounds rounds = new Rounds();
    private final int[] parts = new int[PARTS];

    public SmallWorlds() {
        Arrays.fill(parts, 1);
    }

    // ---- terms, laws, worlds

    public int put(int a, int b) {
        if (!terms.has(a) || !terms.has(b)) {
            return UNKNOWN;
        }
        int told = terms.find(a, b);
        if (told != NONE) {
            return told;
        }
        int added = terms.add(a, b);
        if (added != FULL) {
            rounds.forget();
        }
        return added;
    }

    public int part(int term, boolean second) {
        if (!terms.has(term)) {
            return UNKNOWN;
        }
        return second ? terms.right[term] : terms.left[term];
    }

    public int law(int a, int b) {
        if (!terms.has(a) || !terms.has(b)) {
            return UNKNOWN;
        }
        int added = page.add(a, b);
        if (added != FULL) {
            pageChanged();
        }
        return added;
    }

    public int unlaw() {
        if (page.size == 0) {
            return STATE;
        }
        page.size--;
        pageChanged();
        return page.size;
    }

    public int worlds(int size, boolean listed) {
        if (!isSize(size)) {
            return OUTSIDE;
        }
        settle();
        return catalog.howMany(size, page.all(), listed);
    }

    public int number(int size, int i) {
        if (!isSize(size)) {
            return OUTSIDE;
        }
        settle();
        return catalog.numberOf(size, page.all(), i);
    }

    public int keeps(int size, int number) {
        if (!isWorld(size, number)) {
            return OUTSIDE;
        }
        return firstBroken(size, number) == NONE ? 1 : 0;
    }

    public int breaks(int size, int number) {
        if (!isWorld(size, number)) {
            return OUTSIDE;
        }
        return firstBroken(size, number);
    }

    public int plain(int size, int number) {
        if (!isWorld(size, number)) {
            return OUTSIDE;
        }
        table.load(size, number);
        return table.leastNumber();
    }

    public int list(int what) {
        if (what != 0 && what != 1) {
            return OUTSIDE;
        }
        settle();
        return what == 0 ? rows.size : rows.pairs;
    }

    public int world(int world, int what) {
        settle();
        if (!rows.has(world)) {
            return UNKNOWN;
        }
        if (what != 0 && what != 1) {
            return OUTSIDE;
        }
        return what == 0 ? rows.sizeAt(world) : catalog.numbers[rows.entries[world]];
    }

    // ---- notions

    public int make(int way, int a, int b) {
        if (way < Notions.IS || way > Notions.SELF) {
            return OUTSIDE;
        }
        if (!isMadeOf(way, a)) {
            return UNKNOWN;
        }
        boolean two = way == Notions.IS || way == Notions.BOTH;
        if (two && !isMadeOf(way, b)) {
            return UNKNOWN;
        }
        return notions.add(way, a, two ? b : 0);
    }

    public int yes(int notion, int world, int x, int y) {
        if (!notions.has(notion)) {
            return UNKNOWN;
        }
        settle();
        if (!rows.has(world)) {
            return UNKNOWN;
        }
        int size = rows.sizeAt(world);
        if (x < 0 || x >= size || y < 0 || y >= size) {
            return OUTSIDE;
        }
        return rows.at(notion, world) >> (x * size + y) & 1;
    }

    public int many(int notion) {
        if (!notions.has(notion)) {
            return UNKNOWN;
        }
        settle();
        return rows.pairsOf(notion);
    }

    public int twin(int notion) {
        if (!notions.has(notion)) {
            return UNKNOWN;
        }
        settle();
        for (int n = 0; n < notion; n++) {
            if (rows.agree(n, notion)) {
                return n;
            }
        }
        return NONE;
    }

    public int butFor(int a, int b) {
        if (!notions.has(a) || !notions.has(b)) {
            return UNKNOWN;
        }
        settle();
        return rows.pairsBeyond(a, b);
    }

    public int look(int a, int b, int i) {
        if (!notions.has(a) || !notions.has(b)) {
            return UNKNOWN;
        }
        settle();
        return rows.pairBeyond(a, b, i);
    }

    public int never(int a, int b) {
        if (!notions.has(a) || !notions.has(b)) {
            return UNKNOWN;
        }
        settle();
        return rows.meet(a, b) ? 0 : 1;
    }

    public int deny(int a, int b) {
        if (!notions.has(a) || !notions.has(b)) {
            return UNKNOWN;
        }
        settle();
        int entry = rows.denier(a, b, page.all());
        if (entry == NONE) {
            return NONE;
        }
        return catalog.sizeOf(entry) * SHIFT + catalog.numbers[entry];
    }

    // ---- worth

    public int weigh(int what, int v) {
        if (what < 0 || what >= PARTS || v < 0 || v > 9) {
            return OUTSIDE;
        }
        int was = parts[what];
        parts[what] = v;
        return was;
    }

    public int wake(int notion, boolean is) {
        if (!notions.has(notion)) {
            return UNKNOWN;
        }
        int was = notions.awake[notion] ? 1 : 0;
        notions.awake[notion] = is;
        return was;
    }

    public int worth(int notion, int what) {
        if (!notions.has(notion)) {
            return UNKNOWN;
        }
        if (what < 0 || what > PARTS) {
            return OUTSIDE;
        }
        settle();
        switch (what) {
            case 0:
                return rows.rare(rows.pairsOf(notion));
            case 1:
                return rows.serves(notion);
            case 2:
                return notions.deep[notion];
            default:
                return worthOf(notion) + SHIFT;
        }
    }

    public int best() {
        settle();
        int found = NONE;
        int most = 0;
        for (int n = 0; n < notions.size; n++) {
            if (notions.awake[n]) {
                int worth = worthOf(n);
                if (found == NONE || worth > most) {
                    found = n;
                    most = worth;
                }
            }
        }
        return found;
    }

    public int next() {
        settle();
        return rows.seekNext();
    }

    public int makeNext() {
        settle();
        int code = rows.seekNext();
        if (code == NONE) {
            return STATE;
        }
        return notions.add(code / 10000, code / 100 % 100, code % 100);
    }

    // ---- pages

    public int needed(int law) {
        if (law < 0 || law >= page.size) {
            return UNKNOWN;
        }
        settle();
        return catalog.isNeeded(law, page.all()) ? 1 : 0;
    }

    public int least() {
        settle();
        int left = page.all();
        for (int law = page.size - 1; law >= 0; law--) {
            if (!catalog.isNeeded(law, left)) {
                left &= ~(1 << law);
            }
        }
        return left;
    }

    public int even() {
        settle();
        return catalog.isEven(page.all()) ? 1 : 0;
    }

    public int keep(int slot) {
        if (!isSlot(slot)) {
            return UNKNOWN;
        }
        settle();
        catalog.keepPage(slot, page.all());
        return page.size;
    }

    public int same(int slot) {
        if (!isSlot(slot)) {
            return UNKNOWN;
        }
        settle();
        if (catalog.isPageOf(slot, page.all(), false)) {
            return 1;
        }
        return catalog.isPageOf(slot, page.all(), true) ? 2 : 0;
    }

    // ---- shown

    public int shown(int a, int b) {
        if (!terms.has(a) || !terms.has(b)) {
            return UNKNOWN;
        }
        rounds.settle(terms, page);
        return rounds.roundOf(a, b);
    }

    public int groups() {
        rounds.settle(terms, page);
        return rounds.howManyGroups(terms.size);
    }

    public int first(int term) {
        if (!terms.has(term)) {
            return UNKNOWN;
        }
        rounds.settle(terms, page);
        return rounds.group[term];
    }

    public int count(int what) {
        switch (what) {
            case 0:
                return terms.size;
            case 1:
                return page.size;
            case 2:
                return notions.size;
            case 3:
                return notions.howManyAwake();
            case 4:
                rounds.settle(terms, page);
                return rounds.last;
            default:
                return OUTSIDE;
        }
    }

    // ---- helpers of the calls

    private static boolean isSize(int size) {
        return size >= 1 && size <= LARGEST;
    }

    private static boolean isWorld(int size, int number) {
        return isSize(size) && number >= 0 && number < TABLES[size];
    }

    private static boolean isSlot(int slot) {
        return slot >= 0 && slot < Catalog.SLOTS;
    }

    private boolean isMadeOf(int way, int a) {
        return way == Notions.IS ? terms.has(a) : notions.has(a);
    }

    private void pageChanged() {
        catalog.forgetLaws(page.size);
        rows.forget();
        rounds.forget();
    }

    /** Brings what hangs on the laws up to date; calls that don't ask for worlds never pay for it. */
    private void settle() {
        catalog.settle(terms, page);
        rows.settle(page.all());
    }

    private int firstBroken(int size, int number) {
        table.load(size, number);
        for (int law = 0; law < page.size; law++) {
            if (!table.keepsLaw(terms, page.left[law], page.right[law])) {
                return law;
            }
        }
        return NONE;
    }

    private int worthOf(int notion) {
        return parts[0] * rows.rare(rows.pairsOf(notion))
            + parts[1] * rows.serves(notion)
            - parts[2] * notions.deep[notion];
    }

    /** The letters, and what is put together of terms of lesser number. */
    private static final class Terms {
        static final int LETTERS = 3;
        static final int MOST = 20;

        final int[] left = new int[MOST];
        final int[] right = new int[MOST];
        /** Which terms stand in a term (itself too), as bits: only these are worked out for it. */
        final int[] needs = new int[MOST];
        int size = LETTERS;

        Terms() {
            for (int letter = 0; letter < LETTERS; letter++) {
                left[letter] = NONE;
                right[letter] = NONE;
                needs[letter] = 1 << letter;
            }
        }

        boolean has(int term) {
            return term >= 0 && term < size;
        }

        int find(int a, int b) {
            for (int term = LETTERS; term < size; term++) {
                if (left[term] == a && right[term] == b) {
                    return term;
                }
            }
            return NONE;
        }

        int add(int a, int b) {
            if (size >= MOST) {
                return FULL;
            }
            int term = size++;
            left[term] = a;
            right[term] = b;
            needs[term] = 1 << term | needs[a] | needs[b];
            return term;
        }
    }

    /** The laws, each of two terms. */
    private static final class Page {
        static final int MOST = 6;

        final int[] left = new int[MOST];
        final int[] right = new int[MOST];
        int size = 0;

        int add(int a, int b) {
            if (size >= MOST) {
                return FULL;
            }
            left[size] = a;
            right[size] = b;
            return size++;
        }

        int all() {
            return (1 << size) - 1;
        }
    }

    /** The table of one world at a time, and what comes out in it. */
    private static final class Table {
        /** Renamings, three names each; the first size! of them move names below size alone. */
        private static final int[] NEW_NAME = {0, 1, 2, 1, 0, 2, 0, 2, 1, 2, 1, 0, 1, 2, 0, 2, 0, 1};
        private static final int[] OLD_NAME = {0, 1, 2, 1, 0, 2, 0, 2, 1, 2, 1, 0, 2, 0, 1, 1, 2, 0};
        private static final int[] RENAMINGS = {1, 1, 2, 6};

        private final int[] cells = new int[LARGEST * LARGEST];
        private final int[] value = new int[Terms.MOST];
        private int size = 1;

        /** A size that is none leaves the table as it is: nothing is divided by it. */
        void load(int newSize, int number) {
            if (!isSize(newSize)) {
                return;
            }
            size = newSize;
            int rest = number;
            for (int cell = newSize * newSize - 1; cell >= 0; cell--) {
                cells[cell] = rest % newSize;
                rest /= newSize;
            }
        }

        /** The table of the next greater number (of 0 behind the last one). */
        void advance() {
            for (int cell = size * size - 1; cell >= 0; cell--) {
                if (cells[cell] < size - 1) {
                    cells[cell]++;
                    return;
                }
                cells[cell] = 0;
            }
        }

        void turnAbout() {
            for (int x = 0; x < size; x++) {
                for (int y = 0; y < x; y++) {
                    int held = cells[x * size + y];
                    cells[x * size + y] = cells[y * size + x];
                    cells[y * size + x] = held;
                }
            }
        }

        private int renamedCell(int renaming, int x, int y) {
            int from = renaming * LARGEST;
            return NEW_NAME[from + cells[OLD_NAME[from + x] * size + OLD_NAME[from + y]]];
        }

        /** Below 0, if the world renamed has a lesser number; 0, if it is itself again. */
        private int compareRenamed(int renaming) {
            for (int x = 0; x < size; x++) {
                for (int y = 0; y < size; y++) {
                    int apart = renamedCell(renaming, x, y) - cells[x * size + y];
                    if (apart != 0) {
                        return apart;
                    }
                }
            }
            return 0;
        }

        private int renamedNumber(int renaming) {
            int number = 0;
            for (int x = 0; x < size; x++) {
                for (int y = 0; y < size; y++) {
                    number = number * size + renamedCell(renaming, x, y);
                }
            }
            return number;
        }

        int leastNumber() {
            int least = renamedNumber(0);
            for (int renaming = 1; renaming < RENAMINGS[size]; renaming++) {
                least = Math.min(least, renamedNumber(renaming));
            }
            return least;
        }

        /** How many worlds are this one by other names; 0, if one of them has a lesser number. */
        int likesIfLeast() {
            int itself = 1;
            for (int renaming = 1; renaming < RENAMINGS[size]; renaming++) {
                int compared = compareRenamed(renaming);
                if (compared < 0) {
                    return 0;
                }
                if (compared == 0) {
                    itself++;
                }
            }
            return RENAMINGS[size] / itself;
        }

        /** A letter that stands in neither term needs no more than one thing set in. */
        private int thingsFor(int letter, int needs) {
            return (needs >> letter & 1) != 0 ? size : 1;
        }

        /** Whether two terms come out as the same thing for x, y and the first things as z. */
        private boolean alikeForZ(Terms terms, int a, int b, int x, int y, int things) {
            int needs = terms.needs[a] | terms.needs[b];
            for (int z = 0; z < things; z++) {
                value[0] = x;
                value[1] = y;
                value[2] = z;
                for (int term = Terms.LETTERS; term <= a || term <= b; term++) {
                    if ((needs >> term & 1) != 0) {
                        value[term] = cells[value[terms.left[term]] * size + value[terms.right[term]]];
                    }
                }
                if (value[a] != value[b]) {
                    return false;
                }
            }
            return true;
        }

        boolean keepsLaw(Terms terms, int a, int b) {
            if (a == b) {
                return true;
            }
            int needs = terms.needs[a] | terms.needs[b];
            int xs = thingsFor(0, needs);
            int ys = thingsFor(1, needs);
            int zs = thingsFor(2, needs);
            for (int x = 0; x < xs; x++) {
                for (int y = 0; y < ys; y++) {
                    if (!alikeForZ(terms, a, b, x, y, zs)) {
                        return false;
                    }
                }
            }
            return true;
        }

        /** The pairs for which two terms are the same for all z, as bits. */
        int pairsAlike(Terms terms, int a, int b) {
            int zs = thingsFor(2, terms.needs[a] | terms.needs[b]);
            int pairs = 0;
            for (int x = 0; x < size; x++) {
                for (int y = 0; y < size; y++) {
                    if (alikeForZ(terms, a, b, x, y, zs)) {
                        pairs |= 1 << (x * size + y);
                    }
                }
            }
            return pairs;
        }
    }

    /**
     * All worlds once up to names, by size and number, with the laws that each of them keeps.
     * A world keeps what it keeps by any names, so this says all of the others, too.
     */
    private static final class Catalog {
        static final int SLOTS = 2;
        static final int ENTRIES = 3341;
        /** Where the worlds of a size begin; behind size 3 the end. */
        private static final int[] START = {0, 0, 1, 11, ENTRIES};

        final int[] numbers = new int[ENTRIES];
        private final int[] likes = new int[ENTRIES];
        private final int[] turned = new int[ENTRIES];
        /** Bits: the laws that a world keeps, then the slots whose page it keeps. */
        private final int[] kept = new int[ENTRIES];
        private boolean filled = false;
        private boolean turnsKnown = false;
        private int lawsKnown = 0;
        private final Table table;

        Catalog(Table table) {
            this.table = table;
            // the slots' pages have no laws at first: each world keeps them
            Arrays.fill(kept, slotBit(0) | slotBit(1));
        }

        private static int slotBit(int slot) {
            return 1 << (Page.MOST + slot);
        }

        int sizeOf(int entry) {
            return entry < START[2] ? 1 : entry < START[3] ? 2 : 3;
        }

        private void fill() {
            int entry = 0;
            for (int size = 1; size <= LARGEST; size++) {
                table.load(size, 0);
                for (int number = 0; number < TABLES[size] && entry < ENTRIES; number++) {
                    int same = table.likesIfLeast();
                    if (same > 0) {
                        numbers[entry] = number;
                        likes[entry] = same;
                        entry++;
                    }
                    table.advance();
                }
            }
            filled = true;
        }

        void forgetLaws(int left) {
            lawsKnown = Math.min(lawsKnown, left);
        }

        void settle(Terms terms, Page page) {
            if (!filled) {
                fill();
            }
            if (lawsKnown < page.size) {
                for (int entry = 0; entry < ENTRIES; entry++) {
                    table.load(sizeOf(entry), numbers[entry]);
                    tryLaws(terms, page, entry);
                }
                lawsKnown = page.size;
            }
        }

        private void tryLaws(Terms terms, Page page, int entry) {
            for (int law = lawsKnown; law < page.size; law++) {
                if (table.keepsLaw(terms, page.left[law], page.right[law])) {
                    kept[entry] |= 1 << law;
                } else {
                    kept[entry] &= ~(1 << law);
                }
            }
        }

        boolean keepsAll(int entry, int laws) {
            return (kept[entry] & laws) == laws;
        }

        int howMany(int size, int laws, boolean once) {
            int sum = 0;
            for (int entry = START[size]; entry < START[size + 1]; entry++) {
                if (keepsAll(entry, laws)) {
                    sum += once ? 1 : likes[entry];
                }
            }
            return sum;
        }

        int numberOf(int size, int laws, int i) {
            int seen = 0;
            for (int entry = START[size]; entry < START[size + 1]; entry++) {
                if (keepsAll(entry, laws)) {
                    if (seen == i) {
                        return numbers[entry];
                    }
                    seen++;
                }
            }
            return NONE;
        }

        /** Whether some world keeps the other ones of some laws and not this one. */
        boolean isNeeded(int law, int laws) {
            int others = laws & ~(1 << law);
            for (int entry = 0; entry < ENTRIES; entry++) {
                if (keepsAll(entry, others) && !keepsAll(entry, 1 << law)) {
                    return true;
                }
            }
            return false;
        }

        boolean isEven(int laws) {
            learnTurns();
            for (int entry = 0; entry < ENTRIES; entry++) {
                if (keepsAll(entry, laws) && !keepsAll(turned[entry], laws)) {
                    return false;
                }
            }
            return true;
        }

        /** What a slot holds is told by the worlds that keep it: later laws don't touch it. */
        void keepPage(int slot, int laws) {
            for (int entry = 0; entry < ENTRIES; entry++) {
                if (keepsAll(entry, laws)) {
                    kept[entry] |= slotBit(slot);
                } else {
                    kept[entry] &= ~slotBit(slot);
                }
            }
        }

        boolean isPageOf(int slot, int laws, boolean turnedAbout) {
            if (turnedAbout) {
                learnTurns();
            }
            for (int entry = 0; entry < ENTRIES; entry++) {
                int other = turnedAbout ? turned[entry] : entry;
                if (keepsAll(entry, laws) != keepsAll(other, slotBit(slot))) {
                    return false;
                }
            }
            return true;
        }

        private void learnTurns() {
            if (turnsKnown) {
                return;
            }
            for (int entry = 0; entry < ENTRIES; entry++) {
                int size = sizeOf(entry);
                table.load(size, numbers[entry]);
                table.turnAbout();
                turned[entry] = entryOf(size, table.leastNumber());
            }
            turnsKnown = true;
        }

        /** The number is one that stands in the catalog. */
        private int entryOf(int size, int number) {
            int low = START[size];
            int high = START[size + 1] - 1;
            for (int halved = 0; halved < 32 && low < high; halved++) {
                int middle = (low + high) / 2;
                if (numbers[middle] < number) {
                    low = middle + 1;
                } else {
                    high = middle;
                }
            }
            return low;
        }
    }

    /** How each notion is made, and whether it is awake. */
    private static final class Notions {
        static final int MOST = 12;
        static final int IS = 0, NOT = 1, BOTH = 2, ALL = 3, SOME = 4, TURNED = 5, SELF = 6;

        final int[] way = new int[MOST];
        final int[] a = new int[MOST];
        final int[] b = new int[MOST];
        /** Which notions a notion is made of (itself too), as bits. */
        final int[] needs = new int[MOST];
        final int[] deep = new int[MOST];
        final boolean[] awake = new boolean[MOST];
        int size = 0;

        boolean has(int notion) {
            return notion >= 0 && notion < size;
        }

        /** Of ways but IS, a and b are notions that are there (b counts for BOTH alone). */
        int add(int how, int one, int other) {
            if (size >= MOST) {
                return FULL;
            }
            int notion = size++;
            way[notion] = how;
            a[notion] = one;
            b[notion] = other;
            awake[notion] = true;
            deep[notion] = 1;
            needs[notion] = 1 << notion;
            if (how != IS) {
                addPart(notion, one);
            }
            if (how == BOTH) {
                addPart(notion, other);
            }
            return notion;
        }

        private void addPart(int notion, int of) {
            deep[notion] += deep[of];
            needs[notion] |= needs[of];
        }

        int howManyAwake() {
            int sum = 0;
            for (int notion = 0; notion < size; notion++) {
                if (awake[notion]) {
                    sum++;
                }
            }
            return sum;
        }
    }

    /** Yeses of one world's pairs as bits: pair x, y is bit x times size, and y. */
    private static final class Bits {
        private Bits() {
        }

        static int whole(int size) {
            return (1 << size * size) - 1;
        }

        /** What a way makes of one notion's bits (BOTH: of two). */
        static int made(int way, int size, int one, int other) {
            switch (way) {
                case Notions.NOT:
                    return ~one & whole(size);
                case Notions.BOTH:
                    return one & other;
                case Notions.TURNED:
                    return turnedAbout(size, one);
                default:
                    return byLines(way, size, one);
            }
        }

        private static int turnedAbout(int size, int one) {
            int bits = 0;
            for (int x = 0; x < size; x++) {
                for (int y = 0; y < size; y++) {
                    bits |= (one >> (y * size + x) & 1) << (x * size + y);
                }
            }
            return bits;
        }

        /** ALL, SOME and SELF say the same of all pairs of one x. */
        private static int byLines(int way, int size, int one) {
            int full = (1 << size) - 1;
            int bits = 0;
            for (int x = 0; x < size; x++) {
                int line = one >> x * size & full;
                boolean is = way == Notions.ALL ? line == full
                    : way == Notions.SOME ? line != 0
                    : (line >> x & 1) != 0;
                if (is) {
                    bits |= full << x * size;
                }
            }
            return bits;
        }
    }

    /** THE LIST, and what holds among the rows of the notions over its pairs. */
    private static final class Rows {
        static final int MOST = 40;
        private static final int PER_LONG = 6;
        private static final int BITS = 9;
        private static final int WHOLE = (1 << BITS) - 1;

        private final Terms terms;
        private final Catalog catalog;
        private final Notions notions;
        private final Table table;
        final int[] entries = new int[MOST];
        private final int[] start = new int[MOST];
        int size = 0;
        int pairs = 0;
        private boolean listKnown = false;
        /** How many notions have been worked out for all worlds of THE LIST. */
        private int notionsKnown = 0;
        /**
         * Two longs an entry of the catalog: the bits of six notions each, and above them six
         * bits for those that are worked out. No law changes them, so they are never forgotten.
         */
        private final long[] seen = new long[2 * Catalog.ENTRIES];
        private final int[] candidate = new int[MOST];
        private int nextCode = NONE;
        private int nextRare = -1;

        Rows(Terms terms, Catalog catalog, Notions notions, Table table) {
            this.terms = terms;
            this.catalog = catalog;
            this.notions = notions;
            this.table = table;
        }

        void forget() {
            listKnown = false;
            notionsKnown = 0;
        }

        void settle(int laws) {
            if (!listKnown) {
                fillList(laws);
            }
            for (int notion = notionsKnown; notion < notions.size; notion++) {
                for (int world = 0; world < size; world++) {
                    see(notion, entries[world]);
                }
            }
            notionsKnown = notions.size;
        }

        private void fillList(int laws) {
            size = 0;
            pairs = 0;
            for (int entry = 0; entry < Catalog.ENTRIES && size < MOST; entry++) {
                if (catalog.keepsAll(entry, laws)) {
                    int things = catalog.sizeOf(entry);
                    entries[size] = entry;
                    start[size] = pairs;
                    pairs += things * things;
                    size++;
                }
            }
            listKnown = true;
        }

        boolean has(int world) {
            return world >= 0 && world < size;
        }

        int sizeAt(int world) {
            return catalog.sizeOf(entries[world]);
        }

        /** The bits of a notion in a world of THE LIST. */
        int at(int notion, int world) {
            return seenBits(notion, entries[world]);
        }

        private int seenBits(int notion, int entry) {
            long held = seen[2 * entry + notion / PER_LONG];
            return (int) (held >> notion % PER_LONG * BITS) & WHOLE;
        }

        /** Works a notion out for a world, unless that has been done; its parts have been seen. */
        private void see(int notion, int entry) {
            int place = notion % PER_LONG;
            long done = 1L << (PER_LONG * BITS + place);
            int at = 2 * entry + notion / PER_LONG;
            if ((seen[at] & done) == 0L) {
                seen[at] |= (long) workedOut(notion, entry) << place * BITS | done;
            }
        }

        private int workedOut(int notion, int entry) {
            int things = catalog.sizeOf(entry);
            int a = notions.a[notion];
            int b = notions.b[notion];
            if (notions.way[notion] == Notions.IS) {
                table.load(things, catalog.numbers[entry]);
                return table.pairsAlike(terms, a, b);
            }
            return Bits.made(notions.way[notion], things, seenBits(a, entry), seenBits(b, entry));
        }

        private void seeAll(int which, int entry) {
            for (int notion = 0; notion < notions.size; notion++) {
                if ((which >> notion & 1) != 0) {
                    see(notion, entry);
                }
            }
        }

        int pairsOf(int notion) {
            int sum = 0;
            for (int world = 0; world < size; world++) {
                sum += Integer.bitCount(at(notion, world));
            }
            return sum;
        }

        boolean agree(int a, int b) {
            for (int world = 0; world < size; world++) {
                if (at(a, world) != at(b, world)) {
                    return false;
                }
            }
            return true;
        }

        int pairsBeyond(int a, int b) {
            int sum = 0;
            for (int world = 0; world < size; world++) {
                sum += Integer.bitCount(at(a, world) & ~at(b, world));
            }
            return sum;
        }

        int pairBeyond(int a, int b, int i) {
            int passed = 0;
            for (int world = 0; world < size; world++) {
                int beyond = at(a, world) & ~at(b, world);
                for (int pair = 0; pair < BITS; pair++) {
                    if ((beyond >> pair & 1) != 0) {
                        if (passed == i) {
                            return start[world] + pair;
                        }
                        passed++;
                    }
                }
            }
            return NONE;
        }

        boolean meet(int a, int b) {
            for (int world = 0; world < size; world++) {
                if ((at(a, world) & at(b, world)) != 0) {
                    return true;
                }
            }
            return false;
        }

        /** The first world of all that are listed in which a does not lie within b. */
        int denier(int a, int b, int laws) {
            if (a == b) {
                return NONE;
            }
            int which = notions.needs[a] | notions.needs[b];
            for (int entry = 0; entry < Catalog.ENTRIES; entry++) {
                if (catalog.keepsAll(entry, laws)) {
                    seeAll(which, entry);
                    if ((seenBits(a, entry) & ~seenBits(b, entry)) != 0) {
                        return entry;
                    }
                }
            }
            return NONE;
        }

        int rare(int yeses) {
            return Math.min(yeses, pairs - yeses);
        }

        private boolean within(int a, int b) {
            for (int world = 0; world < size; world++) {
                if ((at(a, world) & ~at(b, world)) != 0) {
                    return false;
                }
            }
            return true;
        }

        int serves(int notion) {
            int sum = 0;
            for (int n = 0; n < notions.size; n++) {
                if (n != notion && notions.awake[n] && (within(n, notion) || within(notion, n))) {
                    sum++;
                }
            }
            return sum;
        }

        /** THE NEXT as its code; the order of the trials is the order among like ones. */
        int seekNext() {
            nextCode = NONE;
            nextRare = -1;
            for (int way = Notions.NOT; way <= Notions.SELF; way++) {
                for (int a = 0; a < notions.size; a++) {
                    for (int b = 0; b < notions.size; b++) {
                        if (mightBeMade(way, a, b)) {
                            tryNext(way, a, b);
                        }
                    }
                }
            }
            return nextCode;
        }

        /** Of notions that are awake; ways of one notion are tried once, with 0 as the second. */
        private boolean mightBeMade(int way, int a, int b) {
            return notions.awake[a] && (way == Notions.BOTH ? b > a && notions.awake[b] : b == 0);
        }

        private void tryNext(int way, int a, int b) {
            int yeses = 0;
            for (int world = 0; world < size; world++) {
                int other = way == Notions.BOTH ? at(b, world) : 0;
                candidate[world] = Bits.made(way, sizeAt(world), at(a, world), other);
                yeses += Integer.bitCount(candidate[world]);
            }
            if (rare(yeses) > nextRare && isCandidateNew()) {
                nextRare = rare(yeses);
                nextCode = 10000 * way + 100 * a + b;
            }
        }

        private boolean isCandidateNew() {
            for (int n = 0; n < notions.size; n++) {
                if (isCandidate(n)) {
                    return false;
                }
            }
            return true;
        }

        private boolean isCandidate(int notion) {
            for (int world = 0; world < size; world++) {
                if (at(notion, world) != candidate[world]) {
                    return false;
                }
            }
            return true;
        }
    }

    /** What is shown by the laws among the terms that are told, and by which round. */
    private static final class Rounds {
        /** The least term of each term's group. */
        final int[] group = new int[Terms.MOST];
        private final int[] ahead = new int[Terms.MOST];
        private final int[] round = new int[Terms.MOST * Terms.MOST];
        private final int[] image = new int[Terms.MOST];
        int last = 0;
        private boolean known = false;

        void forget() {
            known = false;
        }

        int roundOf(int a, int b) {
            return round[a * Terms.MOST + b];
        }

        int howManyGroups(int size) {
            int sum = 0;
            for (int term = 0; term < size; term++) {
                if (group[term] == term) {
                    sum++;
                }
            }
            return sum;
        }

        void settle(Terms terms, Page page) {
            if (known) {
                return;
            }
            begin(terms.size);
            // each round but the last makes a group less, so more rounds than terms never come
            for (int r = 1; r <= Terms.MOST; r++) {
                System.arraycopy(group, 0, ahead, 0, terms.size);
                if (r == 1) {
                    joinByLaws(terms, page);
                }
                joinByParts(terms);
                if (!noteRound(terms.size, r)) {
                    break;
                }
                last = r;
            }
            known = true;
        }

        private void begin(int size) {
            last = 0;
            Arrays.fill(round, NONE);
            for (int term = 0; term < size; term++) {
                group[term] = term;
                round[term * Terms.MOST + term] = 0;
            }
        }

        /** What laws make of one another hangs on no round: the first one finds all of it. */
        private void joinByLaws(Terms terms, Page page) {
            for (int law = 0; law < page.size; law++) {
                for (int t = 0; t < terms.size; t++) {
                    for (int u = 0; u < terms.size; u++) {
                        if (group[t] != group[u]
                            && isMadeByLaw(terms, page.left[law], page.right[law], t, u)) {
                            join(terms.size, t, u);
                        }
                    }
                }
            }
        }

        /** Whether terms can be set in for the letters so that a becomes t, and b becomes u. */
        private boolean isMadeByLaw(Terms terms, int a, int b, int t, int u) {
            Arrays.fill(image, NONE);
            if (!becomes(a, t) || !becomes(b, u)) {
                return false;
            }
            for (int term = Math.max(a, b); term >= Terms.LETTERS; term--) {
                int made = image[term];
                if (made == NONE) {
                    continue;
                }
                if (made < Terms.LETTERS
                    || !becomes(terms.left[term], terms.left[made])
                    || !becomes(terms.right[term], terms.right[made])) {
                    return false;
                }
            }
            return true;
        }

        private boolean becomes(int term, int made) {
            if (image[term] == NONE) {
                image[term] = made;
            }
            return image[term] == made;
        }

        private void joinByParts(Terms terms) {
            for (int t = Terms.LETTERS; t < terms.size; t++) {
                for (int u = t + 1; u < terms.size; u++) {
                    if (ahead[terms.left[t]] == ahead[terms.left[u]]
                        && ahead[terms.right[t]] == ahead[terms.right[u]]) {
                        join(terms.size, t, u);
                    }
                }
            }
        }

        private void join(int size, int t, int u) {
            int lesser = Math.min(group[t], group[u]);
            int greater = Math.max(group[t], group[u]);
            for (int term = 0; term < size; term++) {
                if (group[term] == greater) {
                    group[term] = lesser;
                }
            }
        }

        /** Whether the round showed something new. */
        private boolean noteRound(int size, int r) {
            boolean fresh = false;
            for (int t = 0; t < size; t++) {
                for (int u = 0; u < size; u++) {
                    int pair = t * Terms.MOST + u;
                    if (group[t] == group[u] && round[pair] == NONE) {
                        round[pair] = r;
                        fresh = true;
                    }
                }
            }
            return fresh;
        }
    }
}
