/** Each promise by answers that can be worked out by hand: ordinary ones, edges, wrong inputs. */
public final class PromiseTest {
    private static final int UNKNOWN = -1, OUTSIDE = -2, STATE = -3, FULL = -4, NONE = -9;
    private static final int LOW = Integer.MIN_VALUE, HIGH = Integer.MAX_VALUE;
    private static int wrong = 0;

    public static void main(String[] args) {
        newObject();
        put();
        part();
        law();
        unlaw();
        worlds();
        number();
        keepsAndBreaks();
        plain();
        list();
        listIsCut();
        rowsOfAFullList();
        world();
        make();
        makeIsFull();
        yes();
        many();
        twin();
        butForAndLook();
        apartAtThePointAlone();
        never();
        deny();
        denyBeyondTheList();
        weigh();
        wake();
        worth();
        best();
        next();
        nextTurnedAndSelf();
        makeNext();
        needed();
        least();
        even();
        keepAndSame();
        slotsBesideSixLaws();
        shown();
        shownByRounds();
        groupsAndFirst();
        count();
        refusedChangesNothing();
        deepTerms();
        System.out.println(wrong == 0 ? "all promises are kept" : wrong + " answers are not as due");
        if (wrong != 0) {
            System.exit(1);
        }
    }

    private static void due(int promise, String call, int got, int want) {
        if (got != want) {
            wrong++;
            System.out.println("promise " + promise + ": " + call + " answered " + got + ", due is " + want);
        }
    }

    /** xx = x. */
    private static SmallWorlds idempotent() {
        SmallWorlds s = new SmallWorlds();
        s.law(s.put(0, 0), 0);
        return s;
    }

    /** xy = x: one world a size. */
    private static SmallWorlds leftOnes() {
        SmallWorlds s = new SmallWorlds();
        s.law(s.put(0, 1), 0);
        return s;
    }

    /**
     * xx = x, xy = yx, (xy)z = x(yz): sets with a lower one of each two. There are four:
     * a point, a chain of two, one below two others (V, number 83), a chain of three (113).
     * Terms: 3 xx, 4 xy, 5 yx, 6 yz, 7 (xy)z, 8 x(yz).
     */
    private static SmallWorlds lower() {
        SmallWorlds s = new SmallWorlds();
        s.put(0, 0);
        s.put(0, 1);
        s.put(1, 0);
        s.put(1, 2);
        s.put(4, 2);
        s.put(0, 6);
        s.law(3, 0);
        s.law(4, 5);
        s.law(7, 8);
        return s;
    }

    /** lower() with notions: 0 x below y, 1 not so, 2 y below x, 3 all pairs, 4 x below each, 5 both 0 and 2, 6 x is y. */
    private static SmallWorlds below() {
        SmallWorlds s = lower();
        s.make(0, 4, 0);
        s.make(1, 0, 0);
        s.make(5, 0, 0);
        s.make(6, 0, 0);
        s.make(3, 0, 0);
        s.make(2, 0, 2);
        s.make(0, 0, 1);
        return s;
    }

    private static void newObject() {
        SmallWorlds s = new SmallWorlds();
        due(1, "count(0)", s.count(0), 3);
        due(1, "count(1)", s.count(1), 0);
        due(1, "count(2)", s.count(2), 0);
        due(1, "count(3)", s.count(3), 0);
        due(1, "count(4)", s.count(4), 0);
        due(1, "worlds(3, false)", s.worlds(3, false), 19683);
        due(1, "least()", s.least(), 0);
        due(1, "even()", s.even(), 1);
        due(1, "same(0)", s.same(0), 1);
        due(1, "same(1)", s.same(1), 1);
        SmallWorlds other = idempotent();
        due(1, "another object's count(0)", other.count(0), 4);
        due(1, "count(0) beside another object", s.count(0), 3);
        due(1, "count(1) beside another object", s.count(1), 0);
    }

    private static void put() {
        SmallWorlds s = new SmallWorlds();
        due(2, "put(0, 1)", s.put(0, 1), 3);
        due(2, "put(1, 0)", s.put(1, 0), 4);
        due(2, "put(3, 3)", s.put(3, 3), 5);
        due(2, "put(1, 0) again", s.put(1, 0), 4);
        due(2, "put(6, 0)", s.put(6, 0), UNKNOWN);
        due(2, "put(0, 6)", s.put(0, 6), UNKNOWN);
        due(2, "put(-1, 0)", s.put(-1, 0), UNKNOWN);
        due(2, "put(0, -1)", s.put(0, -1), UNKNOWN);
        due(2, "put(LOW, HIGH)", s.put(LOW, HIGH), UNKNOWN);
        due(2, "count(0)", s.count(0), 6);
        for (int term = 6; term < 20; term++) {
            due(2, "put(term - 1, 0)", s.put(term - 1, 0), term);
        }
        due(2, "put(19, 0), full", s.put(19, 0), FULL);
        due(2, "put(20, 0), full", s.put(20, 0), UNKNOWN);
        due(2, "put(3, 3), full", s.put(3, 3), 5);
        due(2, "count(0), full", s.count(0), 20);
    }

    private static void part() {
        SmallWorlds s = new SmallWorlds();
        s.put(0, 1);
        s.put(3, 2);
        due(3, "part(4, false)", s.part(4, false), 3);
        due(3, "part(4, true)", s.part(4, true), 2);
        due(3, "part(3, false)", s.part(3, false), 0);
        due(3, "part(3, true)", s.part(3, true), 1);
        due(3, "part(0, false)", s.part(0, false), NONE);
        due(3, "part(2, true)", s.part(2, true), NONE);
        due(3, "part(5, false)", s.part(5, false), UNKNOWN);
        due(3, "part(-1, true)", s.part(-1, true), UNKNOWN);
        due(3, "part(HIGH, true)", s.part(HIGH, true), UNKNOWN);
    }

    private static void law() {
        SmallWorlds s = new SmallWorlds();
        due(4, "law(0, 3)", s.law(0, 3), UNKNOWN);
        due(4, "law(3, 0)", s.law(3, 0), UNKNOWN);
        due(4, "law(-1, 0)", s.law(-1, 0), UNKNOWN);
        due(4, "law(0, LOW)", s.law(0, LOW), UNKNOWN);
        for (int law = 0; law < 6; law++) {
            due(4, "law(0, 0)", s.law(0, 0), law);
        }
        due(4, "law(0, 0), full", s.law(0, 0), FULL);
        due(4, "law(0, 3), full", s.law(0, 3), UNKNOWN);
        due(4, "count(1), full", s.count(1), 6);
    }

    private static void unlaw() {
        SmallWorlds s = new SmallWorlds();
        due(5, "unlaw()", s.unlaw(), STATE);
        s.put(0, 1);
        s.law(3, 0);
        s.law(3, 1);
        due(5, "worlds(2, false), two laws", s.worlds(2, false), 0);
        due(5, "unlaw()", s.unlaw(), 1);
        due(5, "worlds(2, false), one law", s.worlds(2, false), 1);
        due(5, "number(2, 0)", s.number(2, 0), 3);
        due(5, "law(0, 1)", s.law(0, 1), 1);
        due(5, "worlds(2, false), another law", s.worlds(2, false), 0);
        due(5, "unlaw()", s.unlaw(), 1);
        due(5, "unlaw()", s.unlaw(), 0);
        due(5, "unlaw()", s.unlaw(), STATE);
        s.law(3, 1);
        due(5, "number(2, 0), the law after", s.number(2, 0), 5);
    }

    private static void worlds() {
        SmallWorlds s = new SmallWorlds();
        due(6, "worlds(1, false)", s.worlds(1, false), 1);
        due(6, "worlds(1, true)", s.worlds(1, true), 1);
        due(6, "worlds(2, false)", s.worlds(2, false), 16);
        due(6, "worlds(2, true)", s.worlds(2, true), 10);
        due(6, "worlds(3, false)", s.worlds(3, false), 19683);
        due(6, "worlds(3, true)", s.worlds(3, true), 3330);
        due(6, "worlds(0, true)", s.worlds(0, true), OUTSIDE);
        due(6, "worlds(4, false)", s.worlds(4, false), OUTSIDE);
        due(6, "worlds(LOW, false)", s.worlds(LOW, false), OUTSIDE);
        due(6, "worlds(HIGH, false)", s.worlds(HIGH, false), OUTSIDE);
        s.law(s.put(0, 1), s.put(1, 0));
        due(6, "worlds(2, false), xy = yx", s.worlds(2, false), 8);
        due(6, "worlds(2, true), xy = yx", s.worlds(2, true), 4);
        due(6, "worlds(3, false), xy = yx", s.worlds(3, false), 729);
        due(6, "worlds(3, true), xy = yx", s.worlds(3, true), 129);
        s.law(0, 1);
        due(6, "worlds(1, false), x = y", s.worlds(1, false), 1);
        due(6, "worlds(2, false), x = y", s.worlds(2, false), 0);
        due(6, "worlds(3, true), x = y", s.worlds(3, true), 0);
        SmallWorlds lower = lower();
        due(6, "worlds(2, false) of lower()", lower.worlds(2, false), 2);
        due(6, "worlds(3, false) of lower()", lower.worlds(3, false), 9);
        due(6, "worlds(3, true) of lower()", lower.worlds(3, true), 2);
    }

    private static void number() {
        SmallWorlds s = idempotent();
        due(7, "number(1, 0)", s.number(1, 0), 0);
        due(7, "number(1, 1)", s.number(1, 1), NONE);
        due(7, "number(2, 0)", s.number(2, 0), 1);
        due(7, "number(2, 1)", s.number(2, 1), 3);
        due(7, "number(2, 2)", s.number(2, 2), 5);
        due(7, "number(2, 3)", s.number(2, 3), NONE);
        due(7, "number(2, -1)", s.number(2, -1), NONE);
        due(7, "number(2, HIGH)", s.number(2, HIGH), NONE);
        due(7, "number(0, 0)", s.number(0, 0), OUTSIDE);
        due(7, "number(4, -1)", s.number(4, -1), OUTSIDE);
        due(7, "number(3, 138)", s.number(3, 138), NONE);
        SmallWorlds lower = lower();
        due(7, "number(3, 0)", lower.number(3, 0), 83);
        due(7, "number(3, 1)", lower.number(3, 1), 113);
        SmallWorlds free = new SmallWorlds();
        due(7, "number(3, 0)", free.number(3, 0), 0);
        due(7, "number(3, 1)", free.number(3, 1), 1);
        due(7, "number(3, 3330)", free.number(3, 3330), NONE);
    }

    private static void keepsAndBreaks() {
        SmallWorlds s = idempotent();
        due(8, "keeps(2, 7)", s.keeps(2, 7), 1);
        due(8, "keeps(2, 0)", s.keeps(2, 0), 0);
        due(8, "keeps(1, 0)", s.keeps(1, 0), 1);
        due(8, "keeps(1, 1)", s.keeps(1, 1), OUTSIDE);
        due(8, "keeps(2, 15)", s.keeps(2, 15), 0);
        due(8, "keeps(2, 16)", s.keeps(2, 16), OUTSIDE);
        due(8, "keeps(3, 377)", s.keeps(3, 377), 1);
        due(8, "keeps(3, 19682)", s.keeps(3, 19682), 0);
        due(8, "keeps(3, 19683)", s.keeps(3, 19683), OUTSIDE);
        due(8, "keeps(2, -1)", s.keeps(2, -1), OUTSIDE);
        due(8, "keeps(0, 0)", s.keeps(0, 0), OUTSIDE);
        due(8, "keeps(4, 0)", s.keeps(4, 0), OUTSIDE);
        due(8, "keeps(HIGH, LOW)", s.keeps(HIGH, LOW), OUTSIDE);
        s.law(s.put(0, 1), s.put(1, 0));
        due(9, "breaks(2, 0)", s.breaks(2, 0), 0);
        due(9, "breaks(2, 1)", s.breaks(2, 1), NONE);
        due(9, "breaks(2, 3)", s.breaks(2, 3), 1);
        due(9, "breaks(2, 2)", s.breaks(2, 2), 0);
        due(9, "breaks(3, 377)", s.breaks(3, 377), 1);
        due(9, "breaks(3, 113)", s.breaks(3, 113), NONE);
        due(9, "breaks(1, 0)", s.breaks(1, 0), NONE);
        due(9, "breaks(1, 1)", s.breaks(1, 1), OUTSIDE);
        due(9, "breaks(2, 16)", s.breaks(2, 16), OUTSIDE);
        due(9, "breaks(3, -1)", s.breaks(3, -1), OUTSIDE);
        due(9, "breaks(5, 0)", s.breaks(5, 0), OUTSIDE);
        due(8, "keeps(2, 3)", s.keeps(2, 3), 0);
        SmallWorlds z = new SmallWorlds();
        z.law(z.put(0, 1), z.put(0, 2));
        due(8, "keeps(2, 3), xy = xz", z.keeps(2, 3), 1);
        due(8, "keeps(2, 5), xy = xz", z.keeps(2, 5), 0);
    }

    private static void plain() {
        SmallWorlds s = new SmallWorlds();
        due(10, "plain(1, 0)", s.plain(1, 0), 0);
        due(10, "plain(2, 7)", s.plain(2, 7), 1);
        due(10, "plain(2, 1)", s.plain(2, 1), 1);
        due(10, "plain(2, 15)", s.plain(2, 15), 0);
        due(10, "plain(3, 9841)", s.plain(3, 9841), 0);
        due(10, "plain(3, 377)", s.plain(3, 377), 377);
        // a chain with 2 below 0 below 1: 002 012 222
        due(10, "plain(3, 1700)", s.plain(3, 2 * 729 + 81 + 2 * 27 + 26), 113);
        due(10, "plain(3, 19683)", s.plain(3, 19683), OUTSIDE);
        due(10, "plain(2, -1)", s.plain(2, -1), OUTSIDE);
        due(10, "plain(1, 1)", s.plain(1, 1), OUTSIDE);
        due(10, "plain(0, 0)", s.plain(0, 0), OUTSIDE);
        due(10, "plain(4, 0)", s.plain(4, 0), OUTSIDE);
        s.law(0, 1);
        due(10, "plain(2, 7), no such world keeps the law", s.plain(2, 7), 1);
    }

    private static void list() {
        SmallWorlds s = leftOnes();
        due(11, "list(0)", s.list(0), 3);
        due(11, "list(1)", s.list(1), 14);
        due(11, "list(2)", s.list(2), OUTSIDE);
        due(11, "list(-1)", s.list(-1), OUTSIDE);
        due(11, "list(HIGH)", s.list(HIGH), OUTSIDE);
        s.law(0, 1);
        due(11, "list(0), x = y", s.list(0), 1);
        due(11, "list(1), x = y", s.list(1), 1);
        s.unlaw();
        due(11, "list(1), as before", s.list(1), 14);
    }

    private static void listIsCut() {
        SmallWorlds s = new SmallWorlds();
        due(11, "list(0), no laws", s.list(0), 40);
        due(11, "list(1), no laws", s.list(1), 1 + 10 * 4 + 29 * 9);
        due(12, "world(10, 0)", s.world(10, 0), 2);
        due(12, "world(11, 0)", s.world(11, 0), 3);
        due(12, "world(39, 0)", s.world(39, 0), 3);
        due(12, "world(39, 1)", s.world(39, 1), s.number(3, 28));
        due(12, "world(40, 1)", s.world(40, 1), UNKNOWN);
    }

    private static void rowsOfAFullList() {
        SmallWorlds s = new SmallWorlds();
        s.make(0, 0, 1);
        s.make(1, 0, 0);
        s.make(0, 0, 0);
        s.make(5, 0, 0);
        int same = 1 + 10 * 2 + 29 * 3;
        due(15, "many(1)", s.many(1), 302 - same);
        due(16, "twin(3)", s.twin(3), 0);
        due(17, "butFor(2, 0)", s.butFor(2, 0), 302 - same);
        due(18, "look(2, 1, same - 1), the last pair", s.look(2, 1, same - 1), 301);
        due(18, "look(2, 1, same)", s.look(2, 1, same), NONE);
        due(19, "never(0, 1)", s.never(0, 1), 1);
        due(20, "deny(0, 3)", s.deny(0, 3), NONE);
        due(23, "worth(0, 0)", s.worth(0, 0), same);
        due(23, "worth(0, 1)", s.worth(0, 1), 2);
        due(24, "best()", s.best(), 0);
        due(25, "next(), ALL: the point alone", s.next(), 30000);
    }

    private static void world() {
        SmallWorlds s = leftOnes();
        due(12, "world(0, 0)", s.world(0, 0), 1);
        due(12, "world(0, 1)", s.world(0, 1), 0);
        due(12, "world(1, 0)", s.world(1, 0), 2);
        due(12, "world(1, 1)", s.world(1, 1), 3);
        due(12, "world(2, 0)", s.world(2, 0), 3);
        due(12, "world(2, 1)", s.world(2, 1), 377);
        due(12, "world(3, 0)", s.world(3, 0), UNKNOWN);
        due(12, "world(-1, 0)", s.world(-1, 0), UNKNOWN);
        due(12, "world(3, 2)", s.world(3, 2), UNKNOWN);
        due(12, "world(0, 2)", s.world(0, 2), OUTSIDE);
        due(12, "world(0, -1)", s.world(0, -1), OUTSIDE);
    }

    private static void make() {
        SmallWorlds s = lower();
        due(13, "make(-1, 0, 0)", s.make(-1, 0, 0), OUTSIDE);
        due(13, "make(7, 50, 50)", s.make(7, 50, 50), OUTSIDE);
        due(13, "make(0, 9, 0)", s.make(0, 9, 0), UNKNOWN);
        due(13, "make(0, 0, 9)", s.make(0, 0, 9), UNKNOWN);
        due(13, "make(0, -1, 0)", s.make(0, -1, 0), UNKNOWN);
        for (int way = 1; way <= 6; way++) {
            due(13, "make(way, 0, 0), no notions", s.make(way, 0, 0), UNKNOWN);
        }
        due(13, "count(2)", s.count(2), 0);
        due(13, "make(0, 4, 0)", s.make(0, 4, 0), 0);
        due(13, "make(2, 0, 1)", s.make(2, 0, 1), UNKNOWN);
        due(13, "make(2, 1, 0)", s.make(2, 1, 0), UNKNOWN);
        due(13, "make(2, 0, -1)", s.make(2, 0, -1), UNKNOWN);
        due(13, "make(1, 0, 77)", s.make(1, 0, 77), 1);
        due(13, "make(3, 0, -1)", s.make(3, 0, -1), 2);
        due(13, "make(4, 1, LOW)", s.make(4, 1, LOW), 3);
        due(13, "make(5, 0, HIGH)", s.make(5, 0, HIGH), 4);
        due(13, "make(6, 1, -5)", s.make(6, 1, -5), 5);
        due(13, "make(2, 0, 4)", s.make(2, 0, 4), 6);
        due(13, "make(0, 0, 2)", s.make(0, 0, 2), 7);
        due(13, "many(0), x below y", s.many(0), 15);
        due(13, "many(1), not", s.many(1), 8);
        due(13, "many(2), x below each", s.many(2), 9);
        due(13, "many(3), x not below some", s.many(3), 14);
        due(13, "many(4), y below x", s.many(4), 15);
        due(13, "many(5), x not below itself", s.many(5), 0);
        due(13, "many(6), both below", s.many(6), 9);
        due(13, "many(7), x is each z", s.many(7), 1);
    }

    private static void makeIsFull() {
        SmallWorlds s = new SmallWorlds();
        for (int notion = 0; notion < 12; notion++) {
            due(13, "make(0, 0, 1)", s.make(0, 0, 1), notion);
        }
        due(13, "make(0, 0, 1), full", s.make(0, 0, 1), FULL);
        due(13, "make(1, 11, 0), full", s.make(1, 11, 0), FULL);
        due(13, "make(1, 12, 0), full", s.make(1, 12, 0), UNKNOWN);
        due(13, "make(0, 3, 0), full", s.make(0, 3, 0), UNKNOWN);
        due(13, "make(8, 0, 0), full", s.make(8, 0, 0), OUTSIDE);
        due(13, "count(2), full", s.count(2), 12);
    }

    private static void yes() {
        SmallWorlds s = below();
        due(14, "yes(0, 1, 0, 1)", s.yes(0, 1, 0, 1), 1);
        due(14, "yes(0, 1, 1, 0)", s.yes(0, 1, 1, 0), 0);
        due(14, "yes(1, 1, 1, 0)", s.yes(1, 1, 1, 0), 1);
        due(14, "yes(2, 1, 1, 0)", s.yes(2, 1, 1, 0), 1);
        due(14, "yes(2, 1, 0, 1)", s.yes(2, 1, 0, 1), 0);
        due(14, "yes(3, 1, 1, 0)", s.yes(3, 1, 1, 0), 1);
        due(14, "yes(4, 2, 0, 2)", s.yes(4, 2, 0, 2), 1);
        due(14, "yes(4, 2, 2, 2)", s.yes(4, 2, 2, 2), 0);
        due(14, "yes(0, 2, 1, 2)", s.yes(0, 2, 1, 2), 0);
        due(14, "yes(0, 3, 1, 2)", s.yes(0, 3, 1, 2), 1);
        due(14, "yes(0, 0, 0, 0)", s.yes(0, 0, 0, 0), 1);
        due(14, "yes(7, 0, 0, 0)", s.yes(7, 0, 0, 0), UNKNOWN);
        due(14, "yes(-1, 0, 0, 0)", s.yes(-1, 0, 0, 0), UNKNOWN);
        due(14, "yes(0, 4, 0, 0)", s.yes(0, 4, 0, 0), UNKNOWN);
        due(14, "yes(0, -1, 9, 9)", s.yes(0, -1, 9, 9), UNKNOWN);
        due(14, "yes(0, 0, 1, 0)", s.yes(0, 0, 1, 0), OUTSIDE);
        due(14, "yes(0, 1, 0, 2)", s.yes(0, 1, 0, 2), OUTSIDE);
        due(14, "yes(0, 2, -1, 0)", s.yes(0, 2, -1, 0), OUTSIDE);
        due(14, "yes(0, 3, 0, 3)", s.yes(0, 3, 0, 3), OUTSIDE);
        due(14, "yes(0, 3, HIGH, LOW)", s.yes(0, 3, HIGH, LOW), OUTSIDE);
    }

    private static void many() {
        SmallWorlds s = below();
        due(15, "many(0)", s.many(0), 15);
        due(15, "many(3)", s.many(3), 23);
        due(15, "many(6)", s.many(6), 9);
        due(15, "many(7)", s.many(7), UNKNOWN);
        due(15, "many(-1)", s.many(-1), UNKNOWN);
        s.law(0, 1);
        due(15, "many(0), x = y", s.many(0), 1);
        s.unlaw();
        due(15, "many(0), as before", s.many(0), 15);
        s.unlaw();
        s.unlaw();
        s.unlaw();
        due(15, "many(6), no laws", s.many(6), 1 + 10 * 2 + 29 * 3);
    }

    private static void twin() {
        SmallWorlds s = below();
        due(16, "twin(0)", s.twin(0), NONE);
        due(16, "twin(5)", s.twin(5), NONE);
        due(16, "twin(6), both below is the same one", s.twin(6), 5);
        s.make(5, 6, 0);
        due(16, "twin(7), the first of two", s.twin(7), 5);
        due(16, "twin(8)", s.twin(8), UNKNOWN);
        due(16, "twin(-1)", s.twin(-1), UNKNOWN);
        s.law(0, 1);
        due(16, "twin(2), x = y", s.twin(2), 0);
        due(16, "twin(0), x = y", s.twin(0), NONE);
    }

    private static void butForAndLook() {
        SmallWorlds s = below();
        due(17, "butFor(3, 0)", s.butFor(3, 0), 8);
        due(17, "butFor(0, 3)", s.butFor(0, 3), 0);
        due(17, "butFor(0, 2)", s.butFor(0, 2), 6);
        due(17, "butFor(0, 0)", s.butFor(0, 0), 0);
        due(17, "butFor(7, 0)", s.butFor(7, 0), UNKNOWN);
        due(17, "butFor(0, 7)", s.butFor(0, 7), UNKNOWN);
        due(17, "butFor(-1, 0)", s.butFor(-1, 0), UNKNOWN);
        int[] pairs = {3, 8, 10, 11, 12, 17, 20, 21};
        for (int i = 0; i < pairs.length; i++) {
            due(18, "look(3, 0, i)", s.look(3, 0, i), pairs[i]);
        }
        due(18, "look(3, 0, 8)", s.look(3, 0, 8), NONE);
        due(18, "look(3, 0, -1)", s.look(3, 0, -1), NONE);
        due(18, "look(3, 0, HIGH)", s.look(3, 0, HIGH), NONE);
        due(18, "look(0, 3, 0)", s.look(0, 3, 0), NONE);
        due(18, "look(0, 7, 0)", s.look(0, 7, 0), UNKNOWN);
        due(18, "look(-1, 0, -1)", s.look(-1, 0, -1), UNKNOWN);
    }

    /** x is each z: so for the one pair of the first world, and for no other one. */
    private static void apartAtThePointAlone() {
        SmallWorlds s = lower();
        s.make(0, 0, 2);
        s.make(0, 0, 0);
        s.make(1, 1, 0);
        due(18, "look(0, 2, 0), as the first call", s.look(0, 2, 0), 0);
        due(17, "butFor(0, 2)", s.butFor(0, 2), 1);
        due(16, "twin(2)", s.twin(2), NONE);
        due(19, "never(0, 1)", s.never(0, 1), 0);
        due(19, "never(0, 2)", s.never(0, 2), 1);
        due(20, "deny(0, 2)", s.deny(0, 2), 100000);
        s.make(1, 0, 0);
        due(23, "worth(0, 1), within 1 and 2 within it", s.worth(0, 1), 2);
        due(18, "look(3, 2, 0), after a make", s.look(3, 2, 0), 1);
        s.law(0, 1);
        due(18, "look(1, 2, 1), after a law", s.look(1, 2, 1), NONE);
    }

    private static void never() {
        SmallWorlds s = below();
        s.make(2, 0, 1);
        due(19, "never(0, 1)", s.never(0, 1), 1);
        due(19, "never(0, 2)", s.never(0, 2), 0);
        due(19, "never(0, 0)", s.never(0, 0), 0);
        due(19, "never(7, 7), it is never so", s.never(7, 7), 1);
        due(19, "never(8, 0)", s.never(8, 0), UNKNOWN);
        due(19, "never(0, -1)", s.never(0, -1), UNKNOWN);
    }

    private static void deny() {
        SmallWorlds s = below();
        due(20, "deny(3, 0)", s.deny(3, 0), 200001);
        due(20, "deny(0, 3)", s.deny(0, 3), NONE);
        due(20, "deny(0, 0)", s.deny(0, 0), NONE);
        due(20, "deny(7, 0)", s.deny(7, 0), UNKNOWN);
        due(20, "deny(0, 7)", s.deny(0, 7), UNKNOWN);
        due(20, "deny(LOW, 0)", s.deny(LOW, 0), UNKNOWN);
        // not (neither below the other): of these worlds only V has two things apart
        s.make(1, 2, 0);
        s.make(2, 1, 7);
        s.make(1, 8, 0);
        due(20, "deny(3, 9)", s.deny(3, 9), 300083);
        due(20, "butFor(3, 9)", s.butFor(3, 9), 2);
        s.make(1, 3, 0);
        due(20, "deny(3, 10), at the first world of all", s.deny(3, 10), 100000);
    }

    /**
     * (((xx)x)x)x = (xx)x fails just where things with x go about in a ring of three; the
     * least such world is 001 002 000: there 0 with 2 is 1, 1 with 2 is 2, 2 with 2 is 0.
     */
    private static void denyBeyondTheList() {
        SmallWorlds s = new SmallWorlds();
        int cube = s.put(s.put(0, 0), 0);
        int fifth = s.put(s.put(cube, 0), 0);
        s.make(0, 0, 0);
        s.make(0, fifth, cube);
        due(20, "butFor(0, 1)", s.butFor(0, 1), 0);
        int denied = s.deny(0, 1);
        int number = 729 + 2 * 27;
        due(20, "deny(0, 1)", denied, 300000 + number);
        due(20, "deny(0, 1) lies beyond THE LIST", number > s.world(39, 1) ? 1 : 0, 1);
        due(20, "deny(0, 1) is LISTED", s.plain(3, number), number);
        s.law(fifth, cube);
        due(20, "deny(0, 1) breaks it as a law", s.breaks(3, number), 0);
        due(20, "deny(0, 1) with it as a law", s.deny(0, 1), NONE);
        for (int earlier = 0; earlier < number; earlier++) {
            due(20, "keeps(3, earlier)", s.plain(3, earlier) < earlier ? 1 : s.keeps(3, earlier), 1);
        }
        s.unlaw();
        due(20, "deny(0, 1) without it", s.deny(0, 1), denied);
        SmallWorlds t = new SmallWorlds();
        cube = t.put(t.put(0, 0), 0);
        fifth = t.put(t.put(cube, 0), 0);
        t.make(0, fifth, cube);
        t.make(1, 0, 0);
        t.make(1, 1, 0);
        t.make(2, 0, 1);
        due(20, "deny(1, 3), of notions made of notions", t.deny(1, 3), denied);
        due(20, "deny(1, 2), as it is so by the one", t.deny(1, 2), denied);
        due(20, "deny(2, 0)", t.deny(2, 0), NONE);
    }

    private static void weigh() {
        SmallWorlds s = below();
        for (int what = 0; what < 3; what++) {
            due(21, "weigh(what, 9)", s.weigh(what, 9), 1);
            due(21, "weigh(what, 0)", s.weigh(what, 0), 9);
            due(21, "weigh(what, 10)", s.weigh(what, 10), OUTSIDE);
            due(21, "weigh(what, -1)", s.weigh(what, -1), OUTSIDE);
            due(21, "weigh(what, 2)", s.weigh(what, 2), 0);
        }
        due(21, "weigh(3, 0)", s.weigh(3, 0), OUTSIDE);
        due(21, "weigh(-1, 0)", s.weigh(-1, 0), OUTSIDE);
        due(21, "weigh(0, 3)", s.weigh(0, 3), 2);
        due(21, "weigh(1, 4)", s.weigh(1, 4), 2);
        due(21, "weigh(2, 5)", s.weigh(2, 5), 2);
        due(21, "worth(5, 3)", s.worth(5, 3), 100000 + 3 * 9 + 4 * 4 - 5 * 4);
    }

    private static void wake() {
        SmallWorlds s = below();
        due(22, "wake(0, true)", s.wake(0, true), 1);
        due(22, "wake(0, false)", s.wake(0, false), 1);
        due(22, "wake(0, false)", s.wake(0, false), 0);
        due(22, "count(3)", s.count(3), 6);
        due(22, "wake(0, true)", s.wake(0, true), 0);
        due(22, "wake(0, true)", s.wake(0, true), 1);
        due(22, "count(3)", s.count(3), 7);
        due(22, "wake(7, true)", s.wake(7, true), UNKNOWN);
        due(22, "wake(-1, false)", s.wake(-1, false), UNKNOWN);
        s.wake(3, false);
        due(22, "many(3), asleep", s.many(3), 23);
        due(22, "make(1, 3, 0), of one asleep", s.make(1, 3, 0), 7);
    }

    /** Within one another: 5 and 6 and 4 within 0; 5, 6 within 2; all within 3; 5 with 6. */
    private static void worth() {
        SmallWorlds s = below();
        due(23, "worth(0, 0)", s.worth(0, 0), 8);
        due(23, "worth(1, 0)", s.worth(1, 0), 8);
        due(23, "worth(3, 0)", s.worth(3, 0), 0);
        due(23, "worth(0, 1)", s.worth(0, 1), 4);
        due(23, "worth(1, 1)", s.worth(1, 1), 1);
        due(23, "worth(2, 1)", s.worth(2, 1), 3);
        due(23, "worth(3, 1)", s.worth(3, 1), 6);
        due(23, "worth(4, 1)", s.worth(4, 1), 2);
        due(23, "worth(5, 1)", s.worth(5, 1), 4);
        due(23, "worth(0, 2)", s.worth(0, 2), 1);
        due(23, "worth(1, 2)", s.worth(1, 2), 2);
        due(23, "worth(5, 2)", s.worth(5, 2), 4);
        due(23, "worth(6, 2)", s.worth(6, 2), 1);
        due(23, "worth(0, 3)", s.worth(0, 3), 100000 + 8 + 4 - 1);
        due(23, "worth(0, 4)", s.worth(0, 4), OUTSIDE);
        due(23, "worth(0, -1)", s.worth(0, -1), OUTSIDE);
        due(23, "worth(7, 0)", s.worth(7, 0), UNKNOWN);
        due(23, "worth(-1, 9)", s.worth(-1, 9), UNKNOWN);
        s.wake(3, false);
        due(23, "worth(0, 1), 3 asleep", s.worth(0, 1), 3);
        due(23, "worth(3, 1), itself asleep", s.worth(3, 1), 6);
        s.weigh(0, 0);
        s.weigh(1, 0);
        s.weigh(2, 9);
        due(23, "worth(5, 3), less than nothing", s.worth(5, 3), 100000 - 36);
    }

    private static void best() {
        SmallWorlds s = new SmallWorlds();
        due(24, "best(), no notions", s.best(), NONE);
        s = below();
        // worths: 8+4-1, 8+1-2, 8+3-2, 0+6-2, 9+2-2, 9+4-4, 9+4-1
        due(24, "best()", s.best(), 6);
        s.wake(6, false);
        due(24, "best(), 6 asleep", s.best(), 0);
        s.weigh(0, 0);
        s.weigh(1, 0);
        due(24, "best(), by DEEP", s.best(), 0);
        s.wake(0, false);
        due(24, "best(), the least of like ones", s.best(), 1);
        for (int notion = 0; notion < 7; notion++) {
            s.wake(notion, false);
        }
        due(24, "best(), all asleep", s.best(), NONE);
    }

    private static void next() {
        SmallWorlds s = leftOnes();
        due(25, "next(), no notions", s.next(), NONE);
        // x is y: 6 of 14; not so: 8; all: 1; some: 14; turned and self bring nothing of more
        s.make(0, 0, 1);
        due(25, "next()", s.next(), 10000);
        s.make(1, 0, 0);
        // all of 0: 1 yes; all of 1: none, for x is x; some of 1: 13 (not the point); self of 0: 14
        due(25, "next(), ALL before SOME of like ones", s.next(), 30000);
        s.make(3, 0, 0);
        due(25, "next(), NOT of it", s.next(), 10200);
        s.make(1, 2, 0);
        // both of 0 and 3: x is y, not the point: 5; both of 1 and 2: none
        due(25, "next(), BOTH", s.next(), 20003);
        s.wake(3, false);
        due(25, "next(), of those awake", s.next(), 20001);
        s.make(2, 0, 1);
        // none yet unlike is all of 14: NOT of the one that is never so comes first
        due(25, "next(), as rare as nothing", s.next(), 10400);
        s.wake(4, false);
        due(25, "next(), by SOME", s.next(), 40000);
        s.make(4, 0, 0);
        due(25, "next(), all that is left is asleep", s.next(), NONE);
        s.law(0, 1);
        due(25, "next(), x = y", s.next(), NONE);
    }

    /**
     * (zy)z = y: a point, two things (0 with itself alone is itself), and twice three things
     * (each with itself is itself; none is). The notion xx is y: 9 of 23 pairs.
     */
    private static void nextTurnedAndSelf() {
        SmallWorlds s = new SmallWorlds();
        s.law(s.put(s.put(2, 1), 2), 1);
        s.make(0, s.put(0, 0), 1);
        due(25, "list(1)", s.list(1), 23);
        due(25, "next(), SELF: 12 of 23", s.next(), 60000);
        due(26, "makeNext(), SELF", s.makeNext(), 1);
        due(26, "many(1)", s.many(1), 12);
        due(25, "next(), NOT of it", s.next(), 10100);
        due(26, "makeNext(), NOT", s.makeNext(), 2);
        due(25, "next(), TURNED", s.next(), 50100);
        due(26, "makeNext(), TURNED", s.makeNext(), 3);
        due(14, "yes(3, 1, 1, 0)", s.yes(3, 1, 1, 0), 1);
        due(14, "yes(3, 1, 0, 1)", s.yes(3, 1, 0, 1), 0);
    }

    private static void makeNext() {
        SmallWorlds s = leftOnes();
        due(26, "makeNext(), no notions", s.makeNext(), STATE);
        s.make(0, 0, 1);
        due(26, "makeNext()", s.makeNext(), 1);
        due(26, "many(1)", s.many(1), 8);
        due(26, "worth(1, 2)", s.worth(1, 2), 2);
        due(26, "makeNext()", s.makeNext(), 2);
        due(26, "many(2)", s.many(2), 1);
        due(26, "makeNext()", s.makeNext(), 3);
        due(26, "makeNext(), BOTH", s.makeNext(), 4);
        due(26, "many(4)", s.many(4), 5);
        due(26, "worth(4, 2)", s.worth(4, 2), 1 + 1 + 3);
        due(26, "count(3)", s.count(3), 5);
        SmallWorlds point = new SmallWorlds();
        point.law(0, 1);
        point.make(0, 0, 1);
        due(26, "makeNext() of a point", point.makeNext(), 1);
        due(26, "many(1) of a point", point.many(1), 0);
        due(26, "makeNext() of a point, none", point.makeNext(), STATE);
        due(26, "count(2) of a point", point.count(2), 2);
        for (int notion = 2; notion < 12; notion++) {
            point.make(0, 0, 1);
        }
        due(26, "makeNext(), none and full", point.makeNext(), STATE);
        point.unlaw();
        due(26, "makeNext(), full", point.makeNext(), FULL);
        due(26, "count(2), full", point.count(2), 12);
    }

    private static void needed() {
        SmallWorlds s = lower();
        due(27, "needed(0)", s.needed(0), 1);
        due(27, "needed(1)", s.needed(1), 1);
        due(27, "needed(2)", s.needed(2), 1);
        due(27, "needed(3)", s.needed(3), UNKNOWN);
        due(27, "needed(-1)", s.needed(-1), UNKNOWN);
        s.law(5, 4);
        due(27, "needed(1), said twice", s.needed(1), 0);
        due(27, "needed(3), said twice", s.needed(3), 0);
        due(27, "needed(0)", s.needed(0), 1);
        s.law(0, 1);
        due(27, "needed(4), x = y", s.needed(4), 1);
        due(27, "needed(0), beside x = y", s.needed(0), 0);
    }

    private static void least() {
        SmallWorlds s = lower();
        due(28, "least()", s.least(), 7);
        s.law(5, 4);
        due(28, "least(), the later one is left out", s.least(), 7);
        s.law(0, 1);
        due(28, "least(), x = y", s.least(), 16);
        s.law(2, 2);
        due(28, "least(), z = z", s.least(), 16);
        SmallWorlds t = new SmallWorlds();
        due(28, "least(), no laws", t.least(), 0);
        t.law(1, 1);
        due(28, "least(), y = y", t.least(), 0);
    }

    private static void even() {
        SmallWorlds s = new SmallWorlds();
        int xy = s.put(0, 1);
        int yx = s.put(1, 0);
        due(29, "even(), no laws", s.even(), 1);
        s.law(xy, 0);
        due(29, "even(), xy = x", s.even(), 0);
        s.unlaw();
        s.law(xy, yx);
        due(29, "even(), xy = yx", s.even(), 1);
        due(29, "even() of lower()", lower().even(), 1);
        SmallWorlds t = new SmallWorlds();
        // x(yx) = x turned about is (xy)x = x
        t.law(t.put(0, t.put(1, 0)), 0);
        due(29, "even(), x(yx) = x", t.even(), 0);
        t.law(t.put(t.put(0, 1), 0), 0);
        due(29, "even(), (xy)x = x too", t.even(), 1);
    }

    private static void keepAndSame() {
        SmallWorlds s = new SmallWorlds();
        int xy = s.put(0, 1);
        int yx = s.put(1, 0);
        due(30, "keep(-1)", s.keep(-1), UNKNOWN);
        due(30, "keep(2)", s.keep(2), UNKNOWN);
        due(31, "same(-1)", s.same(-1), UNKNOWN);
        due(31, "same(2)", s.same(2), UNKNOWN);
        due(31, "same(0), no laws", s.same(0), 1);
        s.law(xy, 0);
        due(31, "same(1), no laws kept", s.same(1), 0);
        due(30, "keep(0)", s.keep(0), 1);
        due(31, "same(0)", s.same(0), 1);
        due(31, "same(1)", s.same(1), 0);
        s.law(yx, 1);
        due(31, "same(0), another page of the same worlds", s.same(0), 1);
        due(30, "keep(1), two laws", s.keep(1), 2);
        s.unlaw();
        s.unlaw();
        due(31, "same(1), later laws don't touch it", s.same(1), 0);
        s.law(yx, 0);
        due(31, "same(0), turned about", s.same(0), 2);
        due(31, "same(1), turned about", s.same(1), 2);
        due(30, "keep(1)", s.keep(1), 1);
        due(31, "same(1)", s.same(1), 1);
        due(31, "same(0)", s.same(0), 2);
        s.unlaw();
        s.law(xy, yx);
        due(30, "keep(0), xy = yx", s.keep(0), 1);
        due(31, "same(0), the same before turned about", s.same(0), 1);
        due(31, "same(1)", s.same(1), 0);
        s.unlaw();
        due(30, "keep(0), no laws", s.keep(0), 0);
        due(31, "same(0), no laws", s.same(0), 1);
    }

    private static void slotsBesideSixLaws() {
        SmallWorlds s = lower();
        due(30, "keep(0)", s.keep(0), 3);
        s.law(0, 0);
        s.law(1, 1);
        due(30, "keep(1), five laws", s.keep(1), 5);
        s.law(0, 1);
        due(31, "same(0), six laws", s.same(0), 0);
        due(31, "same(1), six laws", s.same(1), 0);
        due(28, "least(), six laws", s.least(), 32);
        due(11, "list(0), six laws", s.list(0), 1);
        s.unlaw();
        due(31, "same(0)", s.same(0), 1);
        due(31, "same(1)", s.same(1), 1);
        due(11, "list(0)", s.list(0), 4);
    }

    private static void shown() {
        SmallWorlds s = new SmallWorlds();
        int xy = s.put(0, 1);
        int yx = s.put(1, 0);
        int zz = s.put(2, 2);
        due(32, "shown(3, 3), no laws", s.shown(3, 3), 0);
        due(32, "shown(3, 4), no laws", s.shown(3, 4), NONE);
        due(32, "shown(6, 0)", s.shown(6, 0), UNKNOWN);
        due(32, "shown(0, 6)", s.shown(0, 6), UNKNOWN);
        due(32, "shown(-1, -1)", s.shown(-1, -1), UNKNOWN);
        s.law(xy, yx);
        due(32, "shown(3, 4)", s.shown(xy, yx), 1);
        due(32, "shown(4, 3)", s.shown(yx, xy), 1);
        due(32, "shown(3, 5)", s.shown(xy, zz), NONE);
        due(32, "shown(0, 1)", s.shown(0, 1), NONE);
        s.unlaw();
        // xy = zz sets any terms in: xy, yx and zz all come to zz
        s.law(xy, zz);
        due(32, "shown(4, 5)", s.shown(yx, zz), 1);
        due(32, "shown(3, 4)", s.shown(xy, yx), 1);
        s.unlaw();
        // xy = x needs no more than that both sides are told
        s.law(xy, 0);
        due(32, "shown(5, 2)", s.shown(zz, 2), 1);
        due(32, "shown(4, 1)", s.shown(yx, 1), 1);
        due(32, "shown(4, 0)", s.shown(yx, 0), NONE);
        s.law(0, 1);
        due(32, "shown(5, 0), x = y", s.shown(zz, 0), 1);
        s.unlaw();
        s.unlaw();
        // (xx)x = x: x(xx) with x = xx set in is not told
        int xx = s.put(0, 0);
        s.law(s.put(xx, 0), 0);
        int far = s.put(s.put(zz, 2), 1);
        int near = s.put(2, 1);
        due(32, "shown(far, near)", s.shown(far, near), 2);
        due(32, "shown(xx, 0)", s.shown(xx, 0), NONE);
    }

    /** xx = x goes up a tower of terms by one round a floor. */
    private static void shownByRounds() {
        SmallWorlds s = idempotent();
        int high = 3;
        int low = 0;
        for (int floor = 2; floor <= 8; floor++) {
            high = s.put(high, 1);
            low = s.put(low, 1);
            due(32, "shown(high, low)", s.shown(high, low), floor);
            due(35, "count(4)", s.count(4), floor);
        }
        due(33, "groups()", s.groups(), 3 + 7);
        due(34, "first(high)", s.first(high), Math.min(high, low));
        s.unlaw();
        due(32, "shown(high, low), no laws", s.shown(high, low), NONE);
        due(35, "count(4), no laws", s.count(4), 0);
    }

    private static void groupsAndFirst() {
        SmallWorlds u = new SmallWorlds();
        u.law(u.put(0, 1), u.put(1, 0));
        due(34, "first(4), xy = yx, as the first call", u.first(4), 3);
        SmallWorlds t = new SmallWorlds();
        t.law(0, t.put(0, 0));
        due(34, "first(3), x = xx", t.first(3), 0);
        due(32, "shown(3, 0), x = xx", t.shown(3, 0), 1);
        t.unlaw();
        t.law(3, 3);
        t.law(1, 1);
        due(33, "groups(), xx = xx, y = y", t.groups(), 4);
        due(35, "count(4), xx = xx, y = y", t.count(4), 0);
        SmallWorlds s = new SmallWorlds();
        due(33, "groups()", s.groups(), 3);
        due(34, "first(2)", s.first(2), 2);
        due(34, "first(3)", s.first(3), UNKNOWN);
        due(34, "first(-1)", s.first(-1), UNKNOWN);
        int xy = s.put(0, 1);
        int yx = s.put(1, 0);
        due(33, "groups(), two more", s.groups(), 5);
        s.law(xy, yx);
        due(33, "groups(), xy = yx", s.groups(), 4);
        due(34, "first(4)", s.first(yx), xy);
        due(34, "first(3)", s.first(xy), xy);
        s.law(yx, 1);
        due(33, "groups(), xy = yx, yx = y", s.groups(), 2);
        due(34, "first(4)", s.first(yx), 0);
        due(34, "first(1)", s.first(1), 0);
        due(34, "first(2)", s.first(2), 2);
        s.law(0, 1);
        due(33, "groups(), x = y", s.groups(), 1);
    }

    private static void count() {
        SmallWorlds s = below();
        due(35, "count(0)", s.count(0), 9);
        due(35, "count(1)", s.count(1), 3);
        due(35, "count(2)", s.count(2), 7);
        s.wake(2, false);
        s.wake(4, false);
        due(35, "count(2), two asleep", s.count(2), 7);
        due(35, "count(3), two asleep", s.count(3), 5);
        due(35, "count(4)", s.count(4), 1);
        due(35, "count(5)", s.count(5), OUTSIDE);
        due(35, "count(-1)", s.count(-1), OUTSIDE);
        due(35, "count(LOW)", s.count(LOW), OUTSIDE);
    }

    private static void refusedChangesNothing() {
        SmallWorlds s = below();
        s.keep(0);
        s.weigh(0, 5);
        s.put(99, 0);
        s.law(0, 99);
        s.make(2, 0, 99);
        s.make(9, 0, 0);
        s.weigh(0, 11);
        s.weigh(7, 1);
        s.wake(99, false);
        s.keep(5);
        due(35, "count(0), refused calls", s.count(0), 9);
        due(35, "count(1), refused calls", s.count(1), 3);
        due(35, "count(2), refused calls", s.count(2), 7);
        due(35, "count(3), refused calls", s.count(3), 7);
        due(21, "weigh(0, 1), refused calls", s.weigh(0, 1), 5);
        due(31, "same(0), refused calls", s.same(0), 1);
        due(11, "list(1), refused calls", s.list(1), 23);
    }

    /** A term put with itself again and again is no longer to work out than any other. */
    private static void deepTerms() {
        SmallWorlds s = new SmallWorlds();
        int top = 0;
        for (int floor = 0; floor < 17; floor++) {
            top = s.put(top, top);
        }
        due(2, "count(0)", s.count(0), 20);
        s.law(top, top - 1);
        // with one square for all it holds; where 0 and 1 are one another's square it does not
        due(8, "keeps(2, 0)", s.keeps(2, 0), 1);
        due(8, "keeps(2, 8)", s.keeps(2, 8), 0);
        due(32, "shown(top, top - 1)", s.shown(top, top - 1), 1);
        due(33, "groups()", s.groups(), 19);
    }
}
