/** The edges of promises 13 to 20, and of ==== 2: notions over all pairs of THE LIST. */
public final class NotionsBoundaryTest {
    private static final int[] FAR_OFF = {-1, 12, 40, Due.LOW, Due.HIGH, Due.NONE};

    public static void main(String[] args) {
        Due.test(13, "OUTSIDE: way (0 to 6)", NotionsBoundaryTest::makeOutside);
        Due.test(13, "UNKNOWN: a TERM by way 0", NotionsBoundaryTest::makeUnknownTerm);
        Due.test(13, "UNKNOWN: else a NOTION", NotionsBoundaryTest::makeUnknownNotion);
        Due.test(13, "UNKNOWN: b by way 2", NotionsBoundaryTest::makeUnknownSecond);
        Due.test(13, "else not looked at", NotionsBoundaryTest::makeWithoutSecond);
        Due.test(13, "NOTIONS of lesser number", NotionsBoundaryTest::makeOfItself);
        Due.test(13, "12 at most", NotionsBoundaryTest::twelveNotions);
        Due.test(13, "OUTSIDE; UNKNOWN", NotionsBoundaryTest::makeOutsideBeforeUnknown);
        Due.test(13, "OUTSIDE; UNKNOWN; FULL", NotionsBoundaryTest::makeRefusalsWhenFull);
        Due.test(13, "a notion that was made is one once more", NotionsBoundaryTest::makeTwice);
        Due.test(13, "of NOTIONS, asleep or not", NotionsBoundaryTest::makeOfOneAsleep);
        Due.test(13, "two TERMS (any)", NotionsBoundaryTest::isOfAnyTerms);
        Due.test(13, "for all THINGS as z", NotionsBoundaryTest::isForAllThingsAsZ);
        Due.test(13, "ALL: each THING", NotionsBoundaryTest::allForEachThing);
        Due.test(13, "SOME: some THING", NotionsBoundaryTest::someForOneThing);
        Due.test(13, "TURNED: y and x", NotionsBoundaryTest::turnedPairs);
        Due.test(13, "SELF: x and x", NotionsBoundaryTest::selfOfEachThing);
        Due.test(14, "UNKNOWN: notion", NotionsBoundaryTest::yesUnknownNotion);
        Due.test(14, "UNKNOWN: world", NotionsBoundaryTest::yesUnknownWorld);
        Due.test(14, "OUTSIDE: x, y", NotionsBoundaryTest::yesOutside);
        Due.test(14, "UNKNOWN; OUTSIDE", NotionsBoundaryTest::yesUnknownBeforeOutside);
        Due.test(14, "the last world of a full list", NotionsBoundaryTest::yesInTheLastWorld);
        Due.test(14, "the twelfth notion", NotionsBoundaryTest::yesOfTheTwelfth);
        Due.test(15, "for no PAIR, for each PAIR", NotionsBoundaryTest::manyNoneAndAll);
        Due.test(15, "UNKNOWN", NotionsBoundaryTest::manyUnknown);
        Due.test(15, "PAIRS go with the laws", NotionsBoundaryTest::manyGoesWithTheLaws);
        Due.test(16, "of lesser number", NotionsBoundaryTest::twinOfLesserNumber);
        Due.test(16, "NONE: of the first there is none of lesser number", NotionsBoundaryTest::twinOfTheFirst);
        Due.test(16, "the first NOTION", NotionsBoundaryTest::twinTheFirst);
        Due.test(16, "just the same PAIRS: but for the first one", NotionsBoundaryTest::twinButForTheFirst);
        Due.test(16, "just the same PAIRS: but for the last one", NotionsBoundaryTest::twinButForTheLast);
        Due.test(16, "a twin may be asleep", NotionsBoundaryTest::twinAsleep);
        Due.test(16, "UNKNOWN", NotionsBoundaryTest::twinUnknown);
        Due.test(17, "so by it and not by that one", NotionsBoundaryTest::butForOneWay);
        Due.test(17, "BUT FOR none, BUT FOR all", NotionsBoundaryTest::butForNoneAndAll);
        Due.test(17, "UNKNOWN", NotionsBoundaryTest::butForUnknown);
        Due.test(18, "numbered from 0 in order", NotionsBoundaryTest::lookInOrder);
        Due.test(18, "NONE: behind the last one", NotionsBoundaryTest::lookBehindTheLast);
        Due.test(18, "NONE: ahead of the first one", NotionsBoundaryTest::lookBelowNought);
        Due.test(18, "NONE: there are none", NotionsBoundaryTest::lookAtNone);
        Due.test(18, "the first and the last PAIR of a full list", NotionsBoundaryTest::lookAtTheEnds);
        Due.test(18, "UNKNOWN", NotionsBoundaryTest::lookUnknown);
        Due.test(19, "no PAIR is so by both", NotionsBoundaryTest::neverOfApartOnes);
        Due.test(19, "one PAIR: the first one", NotionsBoundaryTest::neverButTheFirst);
        Due.test(19, "one PAIR: the last one", NotionsBoundaryTest::neverButTheLast);
        Due.test(19, "a NOTION with itself", NotionsBoundaryTest::neverWithItself);
        Due.test(19, "UNKNOWN", NotionsBoundaryTest::neverUnknown);
        Due.test(20, "NONE: it is not DENIED", NotionsBoundaryTest::denyNone);
        Due.test(20, "the first WORLD of all: the point", NotionsBoundaryTest::denyByThePoint);
        Due.test(20, "the last WORLD of all", NotionsBoundaryTest::denyByTheLastOfAll);
        Due.test(20, "on THE LIST: its last one", NotionsBoundaryTest::denyByTheLastOfTheList);
        Due.test(20, "beyond it: the next one", NotionsBoundaryTest::denyByTheFirstBeyond);
        Due.test(20, "beyond it: of NOTIONS made of NOTIONS", NotionsBoundaryTest::denyBeyondByMadeOnes);
        Due.test(20, "LISTED: no world that breaks a law", NotionsBoundaryTest::denyByListedOnes);
        Due.test(20, "UNKNOWN", NotionsBoundaryTest::denyUnknown);
        Due.end();
    }

    /**
     * xy = zz: whatever is put together is nought. Worlds 0, 1, 2 have one, two, three things,
     * and numbers 0; pairs: 0; 1 to 4; 5 to 13. Terms: 3 xy, 4 zz (nought).
     */
    private static SmallWorlds nought() {
        return Due.page("xy = zz");
    }

    /** nought() with notions: 0 x is nought, 1 y is nought, 2 x is y, 3 the point alone. */
    private static SmallWorlds noughtWithFour() {
        SmallWorlds s = nought();
        s.make(0, 0, 4);
        s.make(0, 1, 4);
        s.make(0, 0, 1);
        s.make(0, 0, 2);
        return s;
    }

    /**
     * A full list with notions 0 x is y, 1 x(x(xy)) is xy, 2 both. 2 is as 0, but for the last
     * pair of all: x(x(xx)) is xx for all things of the 40 worlds, but for 2 in the last one.
     */
    private static SmallWorlds lastPairAlone() {
        SmallWorlds s = Due.page("(x(xy))y = xy");
        s.make(0, 0, 1);
        s.make(0, Due.term(s, "x(x(xy))"), Due.term(s, "xy"));
        s.make(2, 0, 1);
        return s;
    }

    // ---- make

    private static void makeOutside() {
        SmallWorlds s = noughtWithFour();
        for (int way : new int[] {-1, 7, 10, Due.LOW, Due.HIGH}) {
            Due.is("make(" + way + ", 0, 0)", s.make(way, 0, 0), Due.OUTSIDE);
        }
        Due.is("count(2)", s.count(2), 4);
        Due.is("make(0, 0, 0), the first way", s.make(0, 0, 0), 4);
        Due.is("make(6, 0, 0), the last way", s.make(6, 0, 0), 5);
    }

    private static void makeUnknownTerm() {
        SmallWorlds s = nought();
        for (int none : new int[] {-1, 5, 19, 20, Due.LOW, Due.HIGH}) {
            Due.is("make(0, " + none + ", 0)", s.make(0, none, 0), Due.UNKNOWN);
            Due.is("make(0, 0, " + none + ")", s.make(0, 0, none), Due.UNKNOWN);
        }
        Due.is("make(0, 4, 0), the last term", s.make(0, 4, 0), 0);
        Due.is("make(0, 0, 4)", s.make(0, 0, 4), 1);
    }

    private static void makeUnknownNotion() {
        SmallWorlds s = nought();
        for (int way = 1; way <= 6; way++) {
            Due.is("make(way, 0, 0), there are none", s.make(way, 0, 0), Due.UNKNOWN);
        }
        s.make(0, 0, 1);
        for (int way = 1; way <= 6; way++) {
            for (int none : FAR_OFF) {
                Due.is("make(" + way + ", " + none + ", 0)", s.make(way, none, 0), Due.UNKNOWN);
            }
            Due.is("make(way, 1, 0), a term that is no notion", s.make(way, 1, 0), Due.UNKNOWN);
        }
        Due.is("count(2)", s.count(2), 1);
    }

    private static void makeUnknownSecond() {
        SmallWorlds s = noughtWithFour();
        for (int none : FAR_OFF) {
            Due.is("make(2, 0, " + none + ")", s.make(2, 0, none), Due.UNKNOWN);
        }
        Due.is("make(2, 0, 4), a term that is no notion", s.make(2, 0, 4), Due.UNKNOWN);
        Due.is("make(2, 3, 3), the last notion", s.make(2, 3, 3), 4);
    }

    private static void makeWithoutSecond() {
        int[] any = {4, -1, Due.LOW, Due.HIGH, Due.NONE};
        for (int way : new int[] {1, 3, 4, 5, 6}) {
            SmallWorlds s = noughtWithFour();
            s.make(way, 1, 1);
            for (int i = 0; i < any.length; i++) {
                Due.is("make(" + way + ", 1, " + any[i] + ")", s.make(way, 1, any[i]), 5 + i);
                Due.is("butFor(4, it)", s.butFor(4, 5 + i), 0);
                Due.is("butFor(it, 4)", s.butFor(5 + i, 4), 0);
                Due.is("worth(it, 2)", s.worth(5 + i, 2), 2);
            }
        }
    }

    private static void makeOfItself() {
        SmallWorlds s = noughtWithFour();
        for (int way = 1; way <= 6; way++) {
            Due.is("make(way, 4, 4), the number it would have", s.make(way, 4, 4), Due.UNKNOWN);
        }
        Due.is("make(2, 3, 4)", s.make(2, 3, 4), Due.UNKNOWN);
        Due.is("count(2)", s.count(2), 4);
    }

    private static void twelveNotions() {
        for (int way = 0; way <= 6; way++) {
            SmallWorlds s = new SmallWorlds();
            s.make(0, 0, 1);
            for (int notion = 1; notion < 12; notion++) {
                Due.is("make(" + way + ", 0, 0)", s.make(way, 0, 0), notion);
            }
            Due.is("make(" + way + ", 0, 0), the 13th", s.make(way, 0, 0), Due.FULL);
            Due.is("count(2)", s.count(2), 12);
            Due.is("many(12)", s.many(12), Due.UNKNOWN);
        }
    }

    private static void makeOutsideBeforeUnknown() {
        SmallWorlds s = new SmallWorlds();
        Due.is("make(7, 99, 99)", s.make(7, 99, 99), Due.OUTSIDE);
        Due.is("make(-1, -1, -1)", s.make(-1, -1, -1), Due.OUTSIDE);
    }

    private static void makeRefusalsWhenFull() {
        SmallWorlds s = new SmallWorlds();
        Due.fillNotions(s);
        Due.is("make(7, 0, 0)", s.make(7, 0, 0), Due.OUTSIDE);
        Due.is("make(-1, 0, 0)", s.make(-1, 0, 0), Due.OUTSIDE);
        Due.is("make(0, 3, 0)", s.make(0, 3, 0), Due.UNKNOWN);
        Due.is("make(0, 0, 3)", s.make(0, 0, 3), Due.UNKNOWN);
        Due.is("make(1, 12, 0)", s.make(1, 12, 0), Due.UNKNOWN);
        Due.is("make(2, 0, 12)", s.make(2, 0, 12), Due.UNKNOWN);
        Due.is("make(1, 11, 12)", s.make(1, 11, 12), Due.FULL);
        Due.is("make(2, 11, 11)", s.make(2, 11, 11), Due.FULL);
        Due.is("make(0, 2, 2)", s.make(0, 2, 2), Due.FULL);
    }

    private static void makeTwice() {
        SmallWorlds s = nought();
        Due.is("make(0, 0, 1)", s.make(0, 0, 1), 0);
        Due.is("make(0, 0, 1), again", s.make(0, 0, 1), 1);
        Due.is("make(1, 0, 0)", s.make(1, 0, 0), 2);
        Due.is("make(1, 0, 0), again", s.make(1, 0, 0), 3);
        Due.is("count(2)", s.count(2), 4);
    }

    private static void makeOfOneAsleep() {
        SmallWorlds s = nought();
        s.make(0, 0, 1);
        s.wake(0, false);
        Due.is("make(1, 0, 0)", s.make(1, 0, 0), 1);
        Due.is("many(1)", s.many(1), 8);
        Due.is("make(2, 0, 1)", s.make(2, 0, 1), 2);
        Due.is("wake(2, true), the new one is awake", s.wake(2, true), 1);
    }

    /** Of one term with itself, of a letter with a letter, of z alone, of the last term. */
    private static void isOfAnyTerms() {
        SmallWorlds s = nought();
        s.make(0, 2, 2);
        Due.is("many(0), z is z", s.many(0), 14);
        s.make(0, 4, 4);
        Due.is("many(1), zz is zz", s.many(1), 14);
        s.make(0, 3, 4);
        Due.is("many(2), xy is zz", s.many(2), 14);
        s.make(0, 2, 4);
        Due.is("many(3), z is zz: the point", s.many(3), 1);
        Due.fillTerms(s);
        s.make(0, 19, 18);
        Due.is("many(4), the last terms", s.many(4), 14);
        s.make(0, 19, 0);
        Due.is("many(5), x is nought", s.many(5), 6);
    }

    /** x is z: not so, if one thing alone, the first or the last, is not x. */
    private static void isForAllThingsAsZ() {
        SmallWorlds s = nought();
        s.make(0, 0, 2);
        Due.is("yes(0, 0, 0, 0)", s.yes(0, 0, 0, 0), 1);
        Due.is("yes(0, 1, 0, 0)", s.yes(0, 1, 0, 0), 0);
        Due.is("yes(0, 1, 1, 1)", s.yes(0, 1, 1, 1), 0);
        Due.is("many(0)", s.many(0), 1);
        // xz = yz: for worlds where 0 and 1 are told apart by the last thing alone
        SmallWorlds t = new SmallWorlds();
        t.make(0, Due.term(t, "xz"), Due.term(t, "yz"));
        t.make(0, 0, 0);
        Due.is("world(2, 1), 00 01", t.world(2, 1), Due.number("00 01"));
        Due.is("yes(0, 2, 0, 1), apart by 1", t.yes(0, 2, 0, 1), 0);
        Due.is("world(12, 1), 000 000 001", t.world(12, 1), Due.number("000 000 001"));
        Due.is("yes(0, 12, 0, 1), not apart", t.yes(0, 12, 0, 1), 1);
        Due.is("yes(0, 12, 0, 2), apart by 2", t.yes(0, 12, 0, 2), 0);
    }

    private static void allForEachThing() {
        SmallWorlds s = noughtWithFour();
        s.make(3, 0, 0);
        Due.is("many(4), x is nought, with each", s.many(4), 6);
        s.make(3, 1, 0);
        Due.is("many(5), each is nought: the point", s.many(5), 1);
        Due.is("yes(5, 0, 0, 0)", s.yes(5, 0, 0, 0), 1);
        s.make(1, 2, 0);
        s.make(3, 6, 0);
        Due.is("many(7), x is not each: never", s.many(7), 0);
    }

    /** x is not y, for some y: not for the point; just one thing will do. */
    private static void someForOneThing() {
        SmallWorlds s = noughtWithFour();
        s.make(4, 1, 0);
        Due.is("many(4), some is nought", s.many(4), 14);
        s.make(1, 2, 0);
        s.make(4, 5, 0);
        Due.is("yes(6, 0, 0, 0)", s.yes(6, 0, 0, 0), 0);
        Due.is("many(6)", s.many(6), 13);
        s.make(4, 0, 0);
        Due.is("many(7), x is nought, with some", s.many(7), 6);
        Due.is("yes(7, 2, 2, 0)", s.yes(7, 2, 2, 0), 0);
        Due.is("yes(7, 2, 0, 2)", s.yes(7, 2, 0, 2), 1);
    }

    private static void turnedPairs() {
        SmallWorlds s = noughtWithFour();
        s.make(5, 0, 0);
        Due.is("twin(4), y is nought", s.twin(4), 1);
        Due.is("yes(4, 2, 2, 0)", s.yes(4, 2, 2, 0), 1);
        Due.is("yes(4, 2, 0, 2)", s.yes(4, 2, 0, 2), 0);
        s.make(5, 4, 0);
        Due.is("twin(5), turned twice", s.twin(5), 0);
    }

    private static void selfOfEachThing() {
        SmallWorlds s = noughtWithFour();
        s.make(6, 1, 0);
        Due.is("twin(4), x is nought", s.twin(4), 0);
        s.make(6, 2, 0);
        Due.is("many(5), x is x", s.many(5), 14);
        s.make(6, 3, 0);
        Due.is("many(6), the point", s.many(6), 1);
    }

    // ---- yes, many

    private static void yesUnknownNotion() {
        SmallWorlds s = noughtWithFour();
        for (int none : FAR_OFF) {
            Due.is("yes(" + none + ", 0, 0, 0)", s.yes(none, 0, 0, 0), Due.UNKNOWN);
        }
        Due.is("yes(4, 0, 0, 0)", s.yes(4, 0, 0, 0), Due.UNKNOWN);
        Due.is("yes(3, 0, 0, 0)", s.yes(3, 0, 0, 0), 1);
    }

    private static void yesUnknownWorld() {
        SmallWorlds s = noughtWithFour();
        for (int none : FAR_OFF) {
            Due.is("yes(0, " + none + ", 0, 0)", s.yes(0, none, 0, 0), Due.UNKNOWN);
        }
        Due.is("yes(0, 3, 0, 0)", s.yes(0, 3, 0, 0), Due.UNKNOWN);
        Due.is("yes(0, 2, 0, 0)", s.yes(0, 2, 0, 0), 1);
        s.law(0, 1);
        Due.is("yes(0, 2, 0, 0), x = y", s.yes(0, 2, 0, 0), Due.UNKNOWN);
    }

    private static void yesOutside() {
        SmallWorlds s = noughtWithFour();
        for (int world = 0; world < 3; world++) {
            int size = world + 1;
            for (int none : new int[] {-1, size, 3, Due.LOW, Due.HIGH}) {
                Due.is("yes(2, " + world + ", " + none + ", 0)", s.yes(2, world, none, 0), Due.OUTSIDE);
                Due.is("yes(2, " + world + ", 0, " + none + ")", s.yes(2, world, 0, none), Due.OUTSIDE);
            }
            Due.is("yes(2, world, last, last)", s.yes(2, world, size - 1, size - 1), 1);
        }
    }

    private static void yesUnknownBeforeOutside() {
        SmallWorlds s = noughtWithFour();
        Due.is("yes(4, 0, 9, 9)", s.yes(4, 0, 9, 9), Due.UNKNOWN);
        Due.is("yes(0, 3, 9, 9)", s.yes(0, 3, 9, 9), Due.UNKNOWN);
        Due.is("yes(-1, -1, -1, -1)", s.yes(-1, -1, -1, -1), Due.UNKNOWN);
    }

    /** The last world of THE LIST, 000 001 002: there 2 with 2 is 2, and 1 with 1 is 0. */
    private static void yesInTheLastWorld() {
        SmallWorlds s = new SmallWorlds();
        s.make(0, Due.term(s, "xy"), 1);
        Due.is("yes(0, 39, 2, 2)", s.yes(0, 39, 2, 2), 1);
        Due.is("yes(0, 39, 1, 1)", s.yes(0, 39, 1, 1), 0);
        Due.is("yes(0, 39, 2, 1)", s.yes(0, 39, 2, 1), 0);
        Due.is("yes(0, 39, 3, 0)", s.yes(0, 39, 3, 0), Due.OUTSIDE);
        Due.is("yes(0, 40, 0, 0)", s.yes(0, 40, 0, 0), Due.UNKNOWN);
    }

    /** Each notion is not the one ahead of it: the odd ones are not x is nought. */
    private static void yesOfTheTwelfth() {
        SmallWorlds s = nought();
        s.make(0, 0, 4);
        for (int notion = 1; notion < 12; notion++) {
            s.make(1, notion - 1, 0);
        }
        for (int notion = 0; notion < 12; notion++) {
            Due.is("yes(notion, 2, 0, 2)", s.yes(notion, 2, 0, 2), 1 - notion % 2);
            Due.is("yes(notion, 2, 2, 2)", s.yes(notion, 2, 2, 2), notion % 2);
            Due.is("many(notion)", s.many(notion), notion % 2 == 0 ? 6 : 8);
        }
    }

    private static void manyNoneAndAll() {
        SmallWorlds s = nought();
        s.make(0, 0, 0);
        s.make(1, 0, 0);
        Due.is("many(0)", s.many(0), 14);
        Due.is("many(1)", s.many(1), 0);
        s.unlaw();
        Due.is("many(0), a full list", s.many(0), 302);
        Due.is("many(1), a full list", s.many(1), 0);
        s.law(0, 1);
        Due.is("many(0), the point", s.many(0), 1);
        Due.is("many(1), the point", s.many(1), 0);
    }

    private static void manyUnknown() {
        SmallWorlds s = new SmallWorlds();
        Due.is("many(0), there are none", s.many(0), Due.UNKNOWN);
        s.make(0, 0, 1);
        for (int none : FAR_OFF) {
            Due.is("many(" + none + ")", s.many(none), Due.UNKNOWN);
        }
        Due.is("many(1)", s.many(1), Due.UNKNOWN);
    }

    private static void manyGoesWithTheLaws() {
        SmallWorlds s = noughtWithFour();
        Due.is("many(2)", s.many(2), 6);
        s.law(0, 1);
        Due.is("many(2), x = y", s.many(2), 1);
        s.unlaw();
        Due.is("many(2), xy = zz again", s.many(2), 6);
        s.unlaw();
        Due.is("many(2), no laws", s.many(2), 1 + 10 * 2 + 29 * 3);
    }

    // ---- twin

    private static void twinOfLesserNumber() {
        SmallWorlds s = noughtWithFour();
        s.make(5, 1, 0);
        Due.is("twin(4)", s.twin(4), 0);
        Due.is("twin(0), the one that agrees is greater", s.twin(0), Due.NONE);
        Due.is("twin(1), not itself", s.twin(1), Due.NONE);
    }

    /** Things with a lower one of each two: x is yz for all z, if both are the lowest, 0 with 0. */
    private static void twinOfTheFirst() {
        SmallWorlds s = Due.page("xx = x", "xy = yx", "(xy)z = x(yz)");
        s.make(0, 0, Due.term(s, "yz"));
        Due.is("twin(0), alone", s.twin(0), Due.NONE);
        s.make(0, 0, 1);
        Due.is("twin(0), with another one", s.twin(0), Due.NONE);
        Due.is("many(0), one a world", s.many(0), s.list(0));
    }

    private static void twinTheFirst() {
        SmallWorlds s = new SmallWorlds();
        Due.fillNotions(s);
        for (int notion = 1; notion < 12; notion++) {
            Due.is("twin(notion)", s.twin(notion), 0);
        }
    }

    /** The point's pair is the first one: so by x is z, and by no notion that is never so. */
    private static void twinButForTheFirst() {
        SmallWorlds s = noughtWithFour();
        s.make(0, 0, 0);
        s.make(1, 4, 0);
        Due.is("butFor(3, 5)", s.butFor(3, 5), 1);
        Due.is("look(3, 5, 0)", s.look(3, 5, 0), 0);
        Due.is("twin(5)", s.twin(5), Due.NONE);
        Due.is("twin(3)", s.twin(3), Due.NONE);
    }

    private static void twinButForTheLast() {
        SmallWorlds s = lastPairAlone();
        Due.is("butFor(0, 2)", s.butFor(0, 2), 1);
        Due.is("look(0, 2, 0)", s.look(0, 2, 0), s.list(1) - 1);
        Due.is("twin(2)", s.twin(2), Due.NONE);
        Due.is("butFor(2, 0)", s.butFor(2, 0), 0);
    }

    private static void twinAsleep() {
        SmallWorlds s = noughtWithFour();
        s.wake(0, false);
        s.make(6, 1, 0);
        Due.is("twin(4)", s.twin(4), 0);
        s.wake(4, false);
        Due.is("twin(4), itself asleep", s.twin(4), 0);
    }

    private static void twinUnknown() {
        SmallWorlds s = noughtWithFour();
        for (int none : FAR_OFF) {
            Due.is("twin(" + none + ")", s.twin(none), Due.UNKNOWN);
        }
        Due.is("twin(4)", s.twin(4), Due.UNKNOWN);
    }

    // ---- butFor, look

    private static void butForOneWay() {
        SmallWorlds s = noughtWithFour();
        Due.is("butFor(0, 3)", s.butFor(0, 3), 5);
        Due.is("butFor(3, 0)", s.butFor(3, 0), 0);
        Due.is("butFor(0, 1)", s.butFor(0, 1), 3);
        Due.is("butFor(1, 0)", s.butFor(1, 0), 3);
    }

    private static void butForNoneAndAll() {
        SmallWorlds s = noughtWithFour();
        s.make(0, 0, 0);
        s.make(1, 4, 0);
        Due.is("butFor(4, 4), itself", s.butFor(4, 4), 0);
        Due.is("butFor(5, 5), never so", s.butFor(5, 5), 0);
        Due.is("butFor(5, 4)", s.butFor(5, 4), 0);
        Due.is("butFor(4, 5)", s.butFor(4, 5), 14);
        s.unlaw();
        Due.is("butFor(4, 5), a full list", s.butFor(4, 5), 302);
    }

    private static void butForUnknown() {
        SmallWorlds s = noughtWithFour();
        for (int none : FAR_OFF) {
            Due.is("butFor(" + none + ", 0)", s.butFor(none, 0), Due.UNKNOWN);
            Due.is("butFor(0, " + none + ")", s.butFor(0, none), Due.UNKNOWN);
        }
        Due.is("butFor(4, 3)", s.butFor(4, 3), Due.UNKNOWN);
        Due.is("butFor(3, 4)", s.butFor(3, 4), Due.UNKNOWN);
    }

    /** x is nought, y is not: 0 with 1; then 0 with 1 and 0 with 2. */
    private static void lookInOrder() {
        SmallWorlds s = noughtWithFour();
        int[] oneWay = {2, 6, 7};
        int[] otherWay = {3, 8, 11};
        for (int i = 0; i < 3; i++) {
            Due.is("look(0, 1, i)", s.look(0, 1, i), oneWay[i]);
            Due.is("look(1, 0, i)", s.look(1, 0, i), otherWay[i]);
        }
    }

    private static void lookBehindTheLast() {
        SmallWorlds s = noughtWithFour();
        Due.is("look(0, 1, 2)", s.look(0, 1, 2), 7);
        Due.is("look(0, 1, 3)", s.look(0, 1, 3), Due.NONE);
        Due.is("look(0, 1, 14)", s.look(0, 1, 14), Due.NONE);
        Due.is("look(0, 1, HIGH)", s.look(0, 1, Due.HIGH), Due.NONE);
    }

    private static void lookBelowNought() {
        SmallWorlds s = noughtWithFour();
        Due.is("look(0, 1, -1)", s.look(0, 1, -1), Due.NONE);
        Due.is("look(0, 1, LOW)", s.look(0, 1, Due.LOW), Due.NONE);
    }

    private static void lookAtNone() {
        SmallWorlds s = noughtWithFour();
        Due.is("look(3, 0, 0), within", s.look(3, 0, 0), Due.NONE);
        Due.is("look(0, 0, 0), itself", s.look(0, 0, 0), Due.NONE);
    }

    private static void lookAtTheEnds() {
        SmallWorlds s = new SmallWorlds();
        s.make(0, 0, 0);
        s.make(1, 0, 0);
        Due.is("look(0, 1, 0)", s.look(0, 1, 0), 0);
        Due.is("look(0, 1, 40)", s.look(0, 1, 40), 40);
        Due.is("look(0, 1, 41)", s.look(0, 1, 41), 41);
        Due.is("look(0, 1, 301)", s.look(0, 1, 301), 301);
        Due.is("look(0, 1, 302)", s.look(0, 1, 302), Due.NONE);
    }

    private static void lookUnknown() {
        SmallWorlds s = noughtWithFour();
        for (int none : FAR_OFF) {
            Due.is("look(" + none + ", 0, 0)", s.look(none, 0, 0), Due.UNKNOWN);
            Due.is("look(0, " + none + ", 0)", s.look(0, none, 0), Due.UNKNOWN);
            Due.is("look(0, " + none + ", -1)", s.look(0, none, -1), Due.UNKNOWN);
        }
        Due.is("look(4, 3, 0)", s.look(4, 3, 0), Due.UNKNOWN);
        Due.is("look(3, 4, 0)", s.look(3, 4, 0), Due.UNKNOWN);
    }

    // ---- never

    private static void neverOfApartOnes() {
        SmallWorlds s = noughtWithFour();
        s.make(1, 0, 0);
        s.make(0, 0, 0);
        s.make(1, 5, 0);
        Due.is("never(0, 4), it and what it is not", s.never(0, 4), 1);
        Due.is("never(4, 0)", s.never(4, 0), 1);
        Due.is("never(5, 6), one that is never so", s.never(5, 6), 1);
        Due.is("never(0, 1)", s.never(0, 1), 0);
    }

    private static void neverButTheFirst() {
        SmallWorlds s = noughtWithFour();
        Due.is("never(3, 0)", s.never(3, 0), 0);
        Due.is("never(0, 3)", s.never(0, 3), 0);
        s.make(1, 3, 0);
        Due.is("never(3, 4)", s.never(3, 4), 1);
    }

    private static void neverButTheLast() {
        SmallWorlds s = lastPairAlone();
        s.make(1, 2, 0);
        s.make(2, 0, 3);
        Due.is("many(4), the last pair", s.many(4), 1);
        Due.is("never(0, 3)", s.never(0, 3), 0);
        Due.is("never(2, 3)", s.never(2, 3), 1);
    }

    private static void neverWithItself() {
        SmallWorlds s = noughtWithFour();
        s.make(0, 0, 0);
        s.make(1, 4, 0);
        Due.is("never(3, 3), so for one pair", s.never(3, 3), 0);
        Due.is("never(5, 5), so for none", s.never(5, 5), 1);
    }

    private static void neverUnknown() {
        SmallWorlds s = noughtWithFour();
        for (int none : FAR_OFF) {
            Due.is("never(" + none + ", 0)", s.never(none, 0), Due.UNKNOWN);
            Due.is("never(0, " + none + ")", s.never(0, none), Due.UNKNOWN);
        }
        Due.is("never(4, 3)", s.never(4, 3), Due.UNKNOWN);
        Due.is("never(3, 4)", s.never(3, 4), Due.UNKNOWN);
    }

    // ---- deny

    private static void denyNone() {
        SmallWorlds s = noughtWithFour();
        Due.is("deny(3, 0)", s.deny(3, 0), Due.NONE);
        Due.is("deny(0, 0)", s.deny(0, 0), Due.NONE);
        s.make(0, 0, 0);
        s.make(1, 4, 0);
        Due.is("deny(5, 0), one that is never so", s.deny(5, 0), Due.NONE);
        Due.is("deny(5, 5)", s.deny(5, 5), Due.NONE);
        s.unlaw();
        Due.is("deny(0, 4), all worlds, within what is always so", s.deny(0, 4), Due.NONE);
    }

    private static void denyByThePoint() {
        SmallWorlds s = noughtWithFour();
        s.make(1, 3, 0);
        Due.is("deny(3, 4)", s.deny(3, 4), 100000);
        Due.is("deny(4, 3)", s.deny(4, 3), 200000);
        s.law(0, 1);
        Due.is("deny(4, 3), x = y", s.deny(4, 3), Due.NONE);
        Due.is("deny(3, 4), x = y", s.deny(3, 4), 100000);
    }

    private static void denyByTheLastOfAll() {
        SmallWorlds s = Due.page("(xy)(x(xy)) = x", "(yx)x = (xy)y");
        s.make(0, 0, 0);
        s.make(0, 0, 1);
        Due.is("deny(0, 1)", s.deny(0, 1), 300000 + Due.number("122 020 110"));
    }

    private static void denyByTheLastOfTheList() {
        SmallWorlds s = lastPairAlone();
        Due.is("list(0)", s.list(0), 40);
        Due.is("deny(0, 2)", s.deny(0, 2), 300000 + s.world(39, 1));
        Due.is("butFor(0, 2)", s.butFor(0, 2), 1);
    }

    /**
     * xx = x; yx is not y, but (yx)x is: x bears two other things to one another. The least such
     * world is 000 210 102, and 40 that are LISTED come ahead of it.
     */
    private static void denyByTheFirstBeyond() {
        SmallWorlds s = Due.page("xx = x");
        int once = Due.term(s, "yx");
        int twice = Due.term(s, "(yx)x");
        s.make(0, twice, 1);
        s.make(0, once, 1);
        int number = Due.number("000 210 102");
        Due.is("worlds(2, true), so that 36 of three things are on THE LIST", s.worlds(2, true), 3);
        Due.is("number(3, 36)", s.number(3, 36), number);
        Due.is("butFor(0, 1)", s.butFor(0, 1), 0);
        Due.is("deny(0, 1)", s.deny(0, 1), 300000 + number);
        Due.is("butFor(0, 1), still", s.butFor(0, 1), 0);
    }

    /** As above, by what is not not so, and by both. */
    private static void denyBeyondByMadeOnes() {
        SmallWorlds s = Due.page("xx = x");
        int once = Due.term(s, "yx");
        int twice = Due.term(s, "(yx)x");
        s.make(0, twice, 1);
        s.make(0, once, 1);
        s.make(1, 0, 0);
        s.make(1, 2, 0);
        s.make(2, 0, 1);
        s.make(5, 4, 0);
        s.make(5, 5, 0);
        Due.is("deny(3, 6), as the first call that tells", s.deny(3, 6), 300000 + Due.number("000 210 102"));
        Due.is("deny(6, 3)", s.deny(6, 3), Due.NONE);
        Due.is("deny(3, 0)", s.deny(3, 0), Due.NONE);
    }

    /** xx is x: denied first by 00 00, that breaks xx = x, then by none. */
    private static void denyByListedOnes() {
        SmallWorlds s = new SmallWorlds();
        s.make(0, 0, 0);
        s.make(0, Due.term(s, "xx"), 0);
        s.make(0, Due.term(s, "xy"), Due.term(s, "yx"));
        Due.is("deny(0, 1)", s.deny(0, 1), 200000);
        Due.is("deny(0, 2)", s.deny(0, 2), 200000 + Due.number("00 10"));
        Due.law(s, "xx = x");
        Due.is("deny(0, 1), xx = x", s.deny(0, 1), Due.NONE);
        Due.is("deny(0, 2), xx = x", s.deny(0, 2), 200000 + Due.number("00 11"));
        Due.law(s, "xy = yx");
        Due.is("deny(0, 2), xy = yx", s.deny(0, 2), Due.NONE);
        s.unlaw();
        s.unlaw();
        Due.is("deny(0, 2), no laws again", s.deny(0, 2), 200000 + Due.number("00 10"));
    }

    private static void denyUnknown() {
        SmallWorlds s = noughtWithFour();
        for (int none : FAR_OFF) {
            Due.is("deny(" + none + ", 0)", s.deny(none, 0), Due.UNKNOWN);
            Due.is("deny(0, " + none + ")", s.deny(0, none), Due.UNKNOWN);
            Due.is("deny(" + none + ", the same)", s.deny(none, none), Due.UNKNOWN);
        }
        Due.is("deny(4, 3)", s.deny(4, 3), Due.UNKNOWN);
        Due.is("deny(3, 4)", s.deny(3, 4), Due.UNKNOWN);
    }
}
