import java.lang.reflect.Method;
import java.util.ArrayList;
import java.util.Arrays;
import java.util.BitSet;
import java.util.Comparator;
import java.util.HashMap;
import java.util.List;
import java.util.Map;
import java.util.Random;

/**
 * Runs of calls drawn from fixed seeds, each answer held against a model that follows the
 * document word by word over all 19700 worlds, with none of the program's short ways.
 */
public final class PlainModelTest {
    private static final int RUNS = 400;
    private static final int CALLS = 120;
    private static int wrong = 0;

    public static void main(String[] args) throws ReflectiveOperationException {
        for (int run = 0; run < RUNS && wrong < 20; run++) {
            oneRun(run);
        }
        System.out.println(wrong == 0 ? "the class and the plain model agree" : wrong + " runs do not agree");
        if (wrong != 0) {
            System.exit(1);
        }
    }

    private static void oneRun(int run) throws ReflectiveOperationException {
        Random random = new Random(1000 + run);
        SmallWorlds object = new SmallWorlds();
        Model model = new Model();
        List<String> calls = new ArrayList<>();
        int mood = random.nextInt(4);
        for (int i = 0; i < CALLS; i++) {
            Call call = draw(random, model, mood, i);
            int want = call.on(model);
            int got = call.on(object);
            calls.add(call + " = " + got);
            if (got != want) {
                wrong++;
                System.out.println("run " + run + ", due is " + want + " at the last of:");
                System.out.println("  " + String.join("\n  ", calls));
                return;
            }
        }
    }

    private static final String[] NAMES = {
        "put", "part", "law", "unlaw", "worlds", "number", "keeps", "breaks", "plain", "list", "world",
        "make", "yes", "many", "twin", "butFor", "look", "never", "deny",
        "weigh", "wake", "worth", "best", "next", "makeNext",
        "needed", "least", "even", "keep", "same", "shown", "groups", "first", "count"
    };

    private static Call draw(Random random, Model model, int mood, int i) {
        String name = NAMES[random.nextInt(NAMES.length)];
        if (i < 12) {
            name = random.nextInt(3) == 0 ? "make" : random.nextInt(4) == 0 ? "law" : "put";
        } else if (mood == 1 && random.nextInt(3) == 0) {
            name = "make";
        } else if (mood == 2 && random.nextInt(3) == 0) {
            name = random.nextBoolean() ? "law" : "unlaw";
        } else if (mood == 3 && random.nextInt(3) == 0) {
            name = random.nextBoolean() ? "shown" : "put";
        }
        int terms = model.left.size();
        int laws = model.laws.size();
        int notions = model.notions.size();
        int a = 0;
        int b = 0;
        int c = 0;
        int d = 0;
        boolean flag = random.nextBoolean();
        switch (name) {
            case "put": case "law": case "shown": case "first": case "part":
                a = near(random, terms);
                b = near(random, terms);
                // small terms make laws that some worlds keep
                if (name.equals("law") && flag && terms > 3) {
                    a = 3 + random.nextInt(Math.min(3, terms - 3));
                }
                break;
            case "worlds": case "number": case "keeps": case "breaks": case "plain":
                a = 1 + near(random, 3);
                int all = a == 1 ? 1 : a == 2 ? 16 : 19683;
                b = name.equals("number") ? random.nextInt(40) - 1 : near(random, all);
                if (!name.equals("number") && flag && model.listed().size() > 1) {
                    Model.World w = model.listed().get(random.nextInt(model.listed().size()));
                    a = w.size;
                    b = w.number;
                }
                break;
            case "list": a = near(random, 2); break;
            case "world":
                a = near(random, model.theList().size());
                b = near(random, 2);
                break;
            case "make":
                a = near(random, 7);
                b = near(random, a == 0 ? Math.min(terms, 8) : notions);
                c = near(random, a == 0 ? terms : notions);
                break;
            case "yes":
                a = near(random, notions);
                b = near(random, model.theList().size());
                c = near(random, 3);
                d = near(random, 3);
                break;
            case "many": case "twin": case "wake": a = near(random, notions); break;
            case "butFor": case "never": case "deny":
                a = near(random, notions);
                b = near(random, notions);
                break;
            case "look":
                a = near(random, notions);
                b = near(random, notions);
                c = random.nextInt(30) - 1;
                break;
            case "weigh": a = near(random, 3); b = near(random, 10); break;
            case "worth": a = near(random, notions); b = near(random, 4); break;
            case "needed": a = near(random, laws); break;
            case "keep": case "same": a = near(random, 2); break;
            case "count": a = near(random, 5); break;
            default: break;
        }
        return new Call(name, a, b, c, d, flag);
    }

    /** Mostly below a bound, at times at it, under 0, or far off. */
    private static int near(Random random, int bound) {
        int kind = random.nextInt(40);
        if (kind == 0) {
            return bound;
        }
        if (kind == 1) {
            return -1;
        }
        if (kind == 2) {
            int[] far = {Integer.MIN_VALUE, Integer.MAX_VALUE, 1000, -9, bound + 1};
            return far[random.nextInt(far.length)];
        }
        return random.nextInt(Math.max(1, bound));
    }

    private static final class Call {
        final String name;
        final int a, b, c, d;
        final boolean flag;

        Call(String name, int a, int b, int c, int d, boolean flag) {
            this.name = name;
            this.a = a;
            this.b = b;
            this.c = c;
            this.d = d;
            this.flag = flag;
        }

        @Override
        public String toString() {
            return name + "(" + a + ", " + b + ", " + c + ", " + d + ", " + flag + ")";
        }

        /** On an object or on the model: their calls have the same names and arguments. */
        int on(Object x) throws ReflectiveOperationException {
            for (Method m : x.getClass().getDeclaredMethods()) {
                if (m.getName().equals(name)) {
                    return (Integer) m.invoke(x, argumentsOf(m));
                }
            }
            throw new NoSuchMethodException(name);
        }

        private Object[] argumentsOf(Method m) {
            int[] numbers = {a, b, c, d};
            Class<?>[] types = m.getParameterTypes();
            Object[] arguments = new Object[types.length];
            int used = 0;
            for (int i = 0; i < types.length; i++) {
                arguments[i] = types[i] == boolean.class ? (Object) flag : (Object) numbers[used++];
            }
            return arguments;
        }
    }

    /** The document, word by word. */
    private static final class Model {
        static final int UNKNOWN = -1, OUTSIDE = -2, STATE = -3, FULL = -4, NONE = -9;
        static final List<World> WORLDS = allWorlds();
        /** Which worlds keep a law that is written out: laws come again from run to run. */
        static final Map<String, BitSet> KEEPERS = new HashMap<>();

        static final class World {
            int size, number, index, least, turned;
            int[][] table;
        }

        static final class Notion {
            int way, a, b;
            boolean awake = true;
        }

        final List<Integer> left = new ArrayList<>(Arrays.asList(NONE, NONE, NONE));
        final List<Integer> right = new ArrayList<>(Arrays.asList(NONE, NONE, NONE));
        final List<int[]> laws = new ArrayList<>();
        final List<Notion> notions = new ArrayList<>();
        final List<BitSet> slots = new ArrayList<>();
        final int[] parts = {1, 1, 1};
        List<World> listed = null;

        Model() {
            BitSet all = new BitSet();
            all.set(0, WORLDS.size());
            slots.add(all);
            slots.add(all);
        }

        static int worldsOf(int size) {
            return size == 1 ? 1 : size == 2 ? 16 : 19683;
        }

        static int offset(int size) {
            return size == 1 ? 0 : size == 2 ? 1 : 17;
        }

        static int numberOf(int[][] table) {
            int number = 0;
            for (int[] line : table) {
                for (int thing : line) {
                    number = number * table.length + thing;
                }
            }
            return number;
        }

        static List<World> allWorlds() {
            List<World> all = new ArrayList<>();
            for (int size = 1; size <= 3; size++) {
                for (int number = 0; number < worldsOf(size); number++) {
                    World w = new World();
                    w.size = size;
                    w.number = number;
                    w.index = all.size();
                    w.table = new int[size][size];
                    int weight = worldsOf(size);
                    int rest = number;
                    for (int x = 0; x < size; x++) {
                        for (int y = 0; y < size; y++) {
                            weight /= size;
                            w.table[x][y] = rest / weight;
                            rest %= weight;
                        }
                    }
                    w.least = leastByNames(w);
                    int[][] turned = new int[size][size];
                    for (int x = 0; x < size; x++) {
                        for (int y = 0; y < size; y++) {
                            turned[x][y] = w.table[y][x];
                        }
                    }
                    w.turned = offset(size) + numberOf(turned);
                    all.add(w);
                }
            }
            return all;
        }

        static int leastByNames(World w) {
            int least = Integer.MAX_VALUE;
            int[] name = new int[3];
            for (name[0] = 0; name[0] < w.size; name[0]++) {
                for (name[1] = 0; name[1] < w.size; name[1]++) {
                    for (name[2] = 0; name[2] < w.size; name[2]++) {
                        if (oneForOne(name, w.size)) {
                            int[][] renamed = new int[w.size][w.size];
                            for (int x = 0; x < w.size; x++) {
                                for (int y = 0; y < w.size; y++) {
                                    renamed[name[x]][name[y]] = name[w.table[x][y]];
                                }
                            }
                            least = Math.min(least, numberOf(renamed));
                        }
                    }
                }
            }
            return least;
        }

        static boolean oneForOne(int[] name, int size) {
            for (int x = 0; x < size; x++) {
                for (int y = 0; y < x; y++) {
                    if (name[x] == name[y]) {
                        return false;
                    }
                }
            }
            return true;
        }

        boolean isTerm(int t) {
            return t >= 0 && t < left.size();
        }

        boolean isNotion(int n) {
            return n >= 0 && n < notions.size();
        }

        String written(int t) {
            return t < 3 ? "xyz".substring(t, t + 1) : "(" + left.get(t) + "." + right.get(t) + ")";
        }

        /** A term is known by how all terms up to it are made. */
        String key(int a, int b) {
            StringBuilder key = new StringBuilder();
            for (int t = 3; t <= Math.max(a, b); t++) {
                key.append(written(t));
            }
            return key.append(a).append("=").append(b).toString();
        }

        int[] values(World w, int x, int y, int z) {
            int[] value = new int[left.size()];
            value[0] = x;
            value[1] = y;
            value[2] = z;
            for (int t = 3; t < value.length; t++) {
                value[t] = w.table[value[left.get(t)]][value[right.get(t)]];
            }
            return value;
        }

        boolean keepsLaw(World w, int[] law) {
            for (int x = 0; x < w.size; x++) {
                for (int y = 0; y < w.size; y++) {
                    for (int z = 0; z < w.size; z++) {
                        int[] value = values(w, x, y, z);
                        if (value[law[0]] != value[law[1]]) {
                            return false;
                        }
                    }
                }
            }
            return true;
        }

        BitSet keepers(int[] law) {
            String key = key(law[0], law[1]);
            BitSet found = KEEPERS.get(key);
            if (found == null) {
                found = new BitSet();
                for (World w : WORLDS) {
                    found.set(w.index, keepsLaw(w, law));
                }
                KEEPERS.put(key, found);
            }
            return found;
        }

        BitSet keepersOf(List<int[]> some) {
            BitSet all = new BitSet();
            all.set(0, WORLDS.size());
            for (int[] law : some) {
                all.and(keepers(law));
            }
            return all;
        }

        List<World> listed() {
            if (listed == null) {
                listed = new ArrayList<>();
                BitSet keepers = keepersOf(laws);
                for (World w : WORLDS) {
                    if (keepers.get(w.index) && w.least == w.number) {
                        listed.add(w);
                    }
                }
            }
            return listed;
        }

        List<World> theList() {
            return listed().subList(0, Math.min(40, listed().size()));
        }

        int put(int a, int b) {
            if (!isTerm(a) || !isTerm(b)) {
                return UNKNOWN;
            }
            for (int t = 3; t < left.size(); t++) {
                if (left.get(t) == a && right.get(t) == b) {
                    return t;
                }
            }
            if (left.size() == 20) {
                return FULL;
            }
            left.add(a);
            right.add(b);
            return left.size() - 1;
        }

        int part(int t, boolean second) {
            return !isTerm(t) ? UNKNOWN : second ? right.get(t) : left.get(t);
        }

        int law(int a, int b) {
            if (!isTerm(a) || !isTerm(b)) {
                return UNKNOWN;
            }
            if (laws.size() == 6) {
                return FULL;
            }
            laws.add(new int[] {a, b});
            listed = null;
            return laws.size() - 1;
        }

        int unlaw() {
            if (laws.isEmpty()) {
                return STATE;
            }
            laws.remove(laws.size() - 1);
            listed = null;
            return laws.size();
        }

        int worlds(int size, boolean once) {
            if (size < 1 || size > 3) {
                return OUTSIDE;
            }
            int sum = 0;
            BitSet keepers = keepersOf(laws);
            for (World w : WORLDS) {
                if (w.size == size && keepers.get(w.index) && (!once || w.least == w.number)) {
                    sum++;
                }
            }
            return sum;
        }

        int number(int size, int i) {
            if (size < 1 || size > 3) {
                return OUTSIDE;
            }
            List<Integer> numbers = new ArrayList<>();
            for (World w : listed()) {
                if (w.size == size) {
                    numbers.add(w.number);
                }
            }
            return i >= 0 && i < numbers.size() ? numbers.get(i) : NONE;
        }

        boolean isWorld(int size, int number) {
            return size >= 1 && size <= 3 && number >= 0 && number < worldsOf(size);
        }

        int keeps(int size, int number) {
            if (!isWorld(size, number)) {
                return OUTSIDE;
            }
            return keepersOf(laws).get(offset(size) + number) ? 1 : 0;
        }

        int breaks(int size, int number) {
            if (!isWorld(size, number)) {
                return OUTSIDE;
            }
            for (int law = 0; law < laws.size(); law++) {
                if (!keepers(laws.get(law)).get(offset(size) + number)) {
                    return law;
                }
            }
            return NONE;
        }

        int plain(int size, int number) {
            return !isWorld(size, number) ? OUTSIDE : WORLDS.get(offset(size) + number).least;
        }

        int pairs() {
            int sum = 0;
            for (World w : theList()) {
                sum += w.size * w.size;
            }
            return sum;
        }

        int list(int what) {
            return what == 0 ? theList().size() : what == 1 ? pairs() : OUTSIDE;
        }

        int world(int world, int what) {
            if (world < 0 || world >= theList().size()) {
                return UNKNOWN;
            }
            World w = theList().get(world);
            return what == 0 ? w.size : what == 1 ? w.number : OUTSIDE;
        }

        int make(int way, int a, int b) {
            if (way < 0 || way > 6) {
                return OUTSIDE;
            }
            if (way == 0 ? !isTerm(a) || !isTerm(b) : !isNotion(a) || way == 2 && !isNotion(b)) {
                return UNKNOWN;
            }
            if (notions.size() == 12) {
                return FULL;
            }
            Notion n = new Notion();
            n.way = way;
            n.a = a;
            n.b = b;
            notions.add(n);
            return notions.size() - 1;
        }

        boolean isFor(World w, Notion n, List<boolean[][]> ahead, int x, int y) {
            boolean[][] of = n.way == 0 ? null : ahead.get(n.a);
            boolean all = true;
            boolean some = false;
            for (int thing = 0; thing < w.size; thing++) {
                if (n.way == 0) {
                    int[] value = values(w, x, y, thing);
                    all &= value[n.a] == value[n.b];
                } else {
                    all &= of[x][thing];
                    some |= of[x][thing];
                }
            }
            switch (n.way) {
                case 0: return all;
                case 1: return !of[x][y];
                case 2: return of[x][y] && ahead.get(n.b)[x][y];
                case 3: return all;
                case 4: return some;
                case 5: return of[y][x];
                default: return of[x][x];
            }
        }

        List<boolean[][]> views(World w, List<Notion> some) {
            List<boolean[][]> views = new ArrayList<>();
            for (Notion n : some) {
                boolean[][] view = new boolean[w.size][w.size];
                for (int x = 0; x < w.size; x++) {
                    for (int y = 0; y < w.size; y++) {
                        view[x][y] = isFor(w, n, views, x, y);
                    }
                }
                views.add(view);
            }
            return views;
        }

        /** The rows of some notions over all pairs. */
        boolean[][] rows(List<Notion> some) {
            boolean[][] rows = new boolean[some.size()][pairs()];
            int pair = 0;
            for (World w : theList()) {
                List<boolean[][]> views = views(w, some);
                for (int x = 0; x < w.size; x++) {
                    for (int y = 0; y < w.size; y++) {
                        for (int n = 0; n < rows.length; n++) {
                            rows[n][pair] = views.get(n)[x][y];
                        }
                        pair++;
                    }
                }
            }
            return rows;
        }

        int yes(int notion, int world, int x, int y) {
            if (!isNotion(notion) || world < 0 || world >= theList().size()) {
                return UNKNOWN;
            }
            World w = theList().get(world);
            if (x < 0 || y < 0 || x >= w.size || y >= w.size) {
                return OUTSIDE;
            }
            return views(w, notions).get(notion)[x][y] ? 1 : 0;
        }

        static int yeses(boolean[] row) {
            int sum = 0;
            for (boolean is : row) {
                sum += is ? 1 : 0;
            }
            return sum;
        }

        int many(int notion) {
            return !isNotion(notion) ? UNKNOWN : yeses(rows(notions)[notion]);
        }

        int twin(int notion) {
            if (!isNotion(notion)) {
                return UNKNOWN;
            }
            boolean[][] rows = rows(notions);
            for (int n = 0; n < notion; n++) {
                if (Arrays.equals(rows[n], rows[notion])) {
                    return n;
                }
            }
            return NONE;
        }

        static List<Integer> beyond(boolean[] a, boolean[] b) {
            List<Integer> pairs = new ArrayList<>();
            for (int pair = 0; pair < a.length; pair++) {
                if (a[pair] && !b[pair]) {
                    pairs.add(pair);
                }
            }
            return pairs;
        }

        int butFor(int a, int b) {
            if (!isNotion(a) || !isNotion(b)) {
                return UNKNOWN;
            }
            boolean[][] rows = rows(notions);
            return beyond(rows[a], rows[b]).size();
        }

        int look(int a, int b, int i) {
            if (!isNotion(a) || !isNotion(b)) {
                return UNKNOWN;
            }
            boolean[][] rows = rows(notions);
            List<Integer> pairs = beyond(rows[a], rows[b]);
            return i >= 0 && i < pairs.size() ? pairs.get(i) : NONE;
        }

        int never(int a, int b) {
            if (!isNotion(a) || !isNotion(b)) {
                return UNKNOWN;
            }
            boolean[][] rows = rows(notions);
            for (int pair = 0; pair < rows[a].length; pair++) {
                if (rows[a][pair] && rows[b][pair]) {
                    return 0;
                }
            }
            return 1;
        }

        int deny(int a, int b) {
            if (!isNotion(a) || !isNotion(b)) {
                return UNKNOWN;
            }
            for (World w : listed()) {
                List<boolean[][]> views = views(w, notions);
                for (int x = 0; x < w.size; x++) {
                    for (int y = 0; y < w.size; y++) {
                        if (views.get(a)[x][y] && !views.get(b)[x][y]) {
                            return w.size * 100000 + w.number;
                        }
                    }
                }
            }
            return NONE;
        }

        int weigh(int what, int v) {
            if (what < 0 || what > 2 || v < 0 || v > 9) {
                return OUTSIDE;
            }
            int was = parts[what];
            parts[what] = v;
            return was;
        }

        int wake(int notion, boolean is) {
            if (!isNotion(notion)) {
                return UNKNOWN;
            }
            int was = notions.get(notion).awake ? 1 : 0;
            notions.get(notion).awake = is;
            return was;
        }

        static int rare(boolean[] row) {
            return Math.min(yeses(row), row.length - yeses(row));
        }

        int serves(boolean[][] rows, int notion) {
            int sum = 0;
            for (int n = 0; n < rows.length; n++) {
                if (n != notion && notions.get(n).awake
                    && (beyond(rows[n], rows[notion]).isEmpty() || beyond(rows[notion], rows[n]).isEmpty())) {
                    sum++;
                }
            }
            return sum;
        }

        int deep(int notion) {
            Notion n = notions.get(notion);
            return n.way == 0 ? 1 : n.way == 2 ? 1 + deep(n.a) + deep(n.b) : 1 + deep(n.a);
        }

        int worthOf(boolean[][] rows, int notion) {
            return parts[0] * rare(rows[notion]) + parts[1] * serves(rows, notion) - parts[2] * deep(notion);
        }

        int worth(int notion, int what) {
            if (!isNotion(notion)) {
                return UNKNOWN;
            }
            boolean[][] rows = rows(notions);
            switch (what) {
                case 0: return rare(rows[notion]);
                case 1: return serves(rows, notion);
                case 2: return deep(notion);
                case 3: return worthOf(rows, notion) + 100000;
                default: return OUTSIDE;
            }
        }

        int best() {
            boolean[][] rows = rows(notions);
            int found = NONE;
            for (int n = notions.size() - 1; n >= 0; n--) {
                if (notions.get(n).awake
                    && (found == NONE || worthOf(rows, n) >= worthOf(rows, found))) {
                    found = n;
                }
            }
            return found;
        }

        List<Notion> mightBeMade() {
            List<Notion> might = new ArrayList<>();
            for (int way = 6; way >= 1; way--) {
                for (int a = notions.size() - 1; a >= 0; a--) {
                    for (int b = notions.size() - 1; b >= 0; b--) {
                        boolean fits = way == 2 ? b > a && notions.get(b).awake : b == 0;
                        if (notions.get(a).awake && fits) {
                            Notion n = new Notion();
                            n.way = way;
                            n.a = a;
                            n.b = b;
                            might.add(n);
                        }
                    }
                }
            }
            return might;
        }

        int next() {
            List<Notion> might = mightBeMade();
            List<Notion> all = new ArrayList<>(notions);
            all.addAll(might);
            boolean[][] rows = rows(all);
            List<int[]> fresh = new ArrayList<>();
            for (int m = 0; m < might.size(); m++) {
                boolean[] row = rows[notions.size() + m];
                boolean unlike = true;
                for (int n = 0; n < notions.size(); n++) {
                    unlike &= !Arrays.equals(row, rows[n]);
                }
                if (unlike) {
                    Notion n = might.get(m);
                    fresh.add(new int[] {-rare(row), 10000 * n.way + 100 * n.a + n.b});
                }
            }
            fresh.sort(Comparator.<int[]>comparingInt(c -> c[0]).thenComparingInt(c -> c[1]));
            return fresh.isEmpty() ? NONE : fresh.get(0)[1];
        }

        int makeNext() {
            int code = next();
            return code == NONE ? STATE : make(code / 10000, code / 100 % 100, code % 100);
        }

        boolean isNeeded(List<int[]> some, int law) {
            List<int[]> others = new ArrayList<>(some);
            int[] taken = others.remove(law);
            BitSet left = keepersOf(others);
            left.andNot(keepers(taken));
            return !left.isEmpty();
        }

        int needed(int law) {
            if (law < 0 || law >= laws.size()) {
                return UNKNOWN;
            }
            return isNeeded(laws, law) ? 1 : 0;
        }

        int least() {
            List<int[]> still = new ArrayList<>(laws);
            int bits = 0;
            for (int law = laws.size() - 1; law >= 0; law--) {
                if (isNeeded(still, law)) {
                    bits += 1 << law;
                } else {
                    still.remove(law);
                }
            }
            return bits;
        }

        static BitSet turned(BitSet worlds) {
            BitSet turned = new BitSet();
            for (World w : WORLDS) {
                if (worlds.get(w.index)) {
                    turned.set(w.turned);
                }
            }
            return turned;
        }

        int even() {
            BitSet missed = turned(keepersOf(laws));
            missed.andNot(keepersOf(laws));
            return missed.isEmpty() ? 1 : 0;
        }

        int keep(int slot) {
            if (slot != 0 && slot != 1) {
                return UNKNOWN;
            }
            slots.set(slot, keepersOf(laws));
            return laws.size();
        }

        int same(int slot) {
            if (slot != 0 && slot != 1) {
                return UNKNOWN;
            }
            BitSet now = keepersOf(laws);
            return now.equals(slots.get(slot)) ? 1 : now.equals(turned(slots.get(slot))) ? 2 : 0;
        }

        /** What a term is with terms set in for the letters; NONE, if that is not told. */
        int setIn(int t, int[] in) {
            int[] becomes = new int[left.size()];
            for (int u = 0; u <= t; u++) {
                becomes[u] = NONE;
                if (u < 3) {
                    becomes[u] = in[u];
                } else if (becomes[left.get(u)] != NONE && becomes[right.get(u)] != NONE) {
                    for (int v = 3; v < left.size(); v++) {
                        if (left.get(v) == becomes[left.get(u)] && right.get(v) == becomes[right.get(u)]) {
                            becomes[u] = v;
                        }
                    }
                }
            }
            return becomes[t];
        }

        /** The round by which each two are shown; NONE. */
        int[][] rounds() {
            int size = left.size();
            int[][] round = new int[size][size];
            boolean[][] byLaws = byLaws();
            for (int a = 0; a < size; a++) {
                Arrays.fill(round[a], NONE);
                round[a][a] = 0;
            }
            for (int r = 1; r < 1000; r++) {
                boolean[][] is = new boolean[size][size];
                for (int a = 0; a < size; a++) {
                    for (int b = 0; b < size; b++) {
                        is[a][b] = round[a][b] != NONE || byLaws[a][b] || byParts(round, a, b);
                    }
                }
                for (int c = 0; c < size; c++) {
                    for (int a = 0; a < size; a++) {
                        for (int b = 0; b < size; b++) {
                            is[a][b] |= is[a][c] && is[c][b];
                        }
                    }
                }
                boolean fresh = false;
                for (int a = 0; a < size; a++) {
                    for (int b = 0; b < size; b++) {
                        if (is[a][b] && round[a][b] == NONE) {
                            round[a][b] = r;
                            fresh = true;
                        }
                    }
                }
                if (!fresh) {
                    return round;
                }
            }
            return round;
        }

        boolean byParts(int[][] round, int a, int b) {
            return a >= 3 && b >= 3 && round[left.get(a)][left.get(b)] != NONE
                && round[right.get(a)][right.get(b)] != NONE;
        }

        boolean[][] byLaws() {
            int size = left.size();
            boolean[][] is = new boolean[size][size];
            for (int[] law : laws) {
                int[] in = new int[3];
                for (in[0] = 0; in[0] < size; in[0]++) {
                    for (in[1] = 0; in[1] < size; in[1]++) {
                        for (in[2] = 0; in[2] < size; in[2]++) {
                            int a = setIn(law[0], in);
                            int b = a == NONE ? NONE : setIn(law[1], in);
                            if (a != NONE && b != NONE) {
                                is[a][b] = true;
                                is[b][a] = true;
                            }
                        }
                    }
                }
            }
            return is;
        }

        int shown(int a, int b) {
            return !isTerm(a) || !isTerm(b) ? UNKNOWN : rounds()[a][b];
        }

        int first(int t) {
            if (!isTerm(t)) {
                return UNKNOWN;
            }
            int[][] rounds = rounds();
            int found = 0;
            while (rounds[t][found] == NONE) {
                found++;
            }
            return found;
        }

        int groups() {
            int[][] rounds = rounds();
            int sum = 0;
            for (int t = 0; t < left.size(); t++) {
                int found = 0;
                while (rounds[t][found] == NONE) {
                    found++;
                }
                sum += found == t ? 1 : 0;
            }
            return sum;
        }

        int lastRound() {
            int last = 0;
            for (int[] line : rounds()) {
                for (int round : line) {
                    last = Math.max(last, round);
                }
            }
            return last;
        }

        int count(int what) {
            switch (what) {
                case 0: return left.size();
                case 1: return laws.size();
                case 2: return notions.size();
                case 3: return (int) notions.stream().filter(n -> n.awake).count();
                case 4: return lastRound();
                default: return OUTSIDE;
            }
        }
    }
}
