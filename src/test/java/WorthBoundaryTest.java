/** The edges of promises 21 to 26, and of ==== 3: what is rare, serves, is worth most, comes next. */
public final class WorthBoundaryTest {
    private static final int[] FAR_OFF = {-1, 12, Due.LOW, Due.HIGH, Due.NONE};

    public static void main(String[] args) {
        Due.test(21, "1, 1, 1 at first", WorthBoundaryTest::partsAtFirst);
        Due.test(21, "0 to 9 each", WorthBoundaryTest::partsFromNoughtToNine);
        Due.test(21, "OUTSIDE: v", WorthBoundaryTest::weighOutsideValue);
        Due.test(21, "OUTSIDE: what", WorthBoundaryTest::weighOutsideWhat);
        Due.test(21, "each PART is its own", WorthBoundaryTest::partsApart);
        Due.test(22, "awake (at first)", WorthBoundaryTest::awakeAtFirst);
        Due.test(22, "how it was", WorthBoundaryTest::wakeTellsHowItWas);
        Due.test(22, "UNKNOWN", WorthBoundaryTest::wakeUnknown);
        Due.test(23, "UNKNOWN", WorthBoundaryTest::worthUnknown);
        Due.test(23, "OUTSIDE", WorthBoundaryTest::worthOutside);
        Due.test(23, "UNKNOWN; OUTSIDE", WorthBoundaryTest::worthUnknownBeforeOutside);
        Due.test(23, "RARE: whichever is fewer", WorthBoundaryTest::rareWhicheverIsFewer);
        Due.test(23, "RARE: as many as not", WorthBoundaryTest::rareOfHalves);
        Due.test(23, "RARE: none, all", WorthBoundaryTest::rareOfNoneAndAll);
        Due.test(23, "DEEP: of IS 1", WorthBoundaryTest::deepOfIs);
        Due.test(23, "DEEP: one more than that it is made of", WorthBoundaryTest::deepOfOne);
        Due.test(23, "DEEP: those that they are made of together", WorthBoundaryTest::deepOfTwo);
        Due.test(23, "SERVES: other NOTIONS", WorthBoundaryTest::servesNotItself);
        Due.test(23, "SERVES: within or within it, once", WorthBoundaryTest::servesOnce);
        Due.test(23, "SERVES: that are awake", WorthBoundaryTest::servesThoseAwake);
        Due.test(23, "SERVES: BUT FOR 0, not BUT FOR 1", WorthBoundaryTest::servesButForOne);
        Due.test(23, "SERVES: BUT FOR the first PAIR", WorthBoundaryTest::servesButForThePoint);
        Due.test(23, "WORTH: less than nothing", WorthBoundaryTest::worthBelowNought);
        Due.test(23, "WORTH: as low as can be", WorthBoundaryTest::worthLowest);
        Due.test(23, "WORTH: as high as can be", WorthBoundaryTest::worthHighest);
        Due.test(24, "NONE: there are none", WorthBoundaryTest::bestOfNone);
        Due.test(24, "NONE: all asleep", WorthBoundaryTest::bestAllAsleep);
        Due.test(24, "of those awake", WorthBoundaryTest::bestOfThoseAwake);
        Due.test(24, "of like ones the least", WorthBoundaryTest::bestTheLeast);
        Due.test(24, "all below nought", WorthBoundaryTest::bestBelowNought);
        Due.test(24, "the last of twelve", WorthBoundaryTest::bestTheLast);
        Due.test(25, "by WAYS 1 to 6: 1", WorthBoundaryTest::nextByNot);
        Due.test(25, "by WAYS 1 to 6: 2", WorthBoundaryTest::nextByBoth);
        Due.test(25, "by WAYS 1 to 6: 3", WorthBoundaryTest::nextByAll);
        Due.test(25, "by WAYS 1 to 6: 4", WorthBoundaryTest::nextBySome);
        Due.test(25, "by WAYS 1 to 6: 5", WorthBoundaryTest::nextByTurned);
        Due.test(25, "by WAYS 1 to 6: 6", WorthBoundaryTest::nextBySelf);
        Due.test(25, "NONE: there are none", WorthBoundaryTest::nextOfNone);
        Due.test(25, "NONE: all asleep", WorthBoundaryTest::nextAllAsleep);
        Due.test(25, "NONE: all rows are there", WorthBoundaryTest::nextNothingUnlike);
        Due.test(25, "of such as are awake", WorthBoundaryTest::nextOfThoseAwake);
        Due.test(25, "BOTH: of such as are awake, both", WorthBoundaryTest::nextBothAwake);
        Due.test(25, "asleep ones too", WorthBoundaryTest::nextUnlikeThoseAsleep);
        Due.test(25, "most RARE", WorthBoundaryTest::nextMostRare);
        Due.test(25, "RARE is 0", WorthBoundaryTest::nextAsRareAsNothing);
        Due.test(25, "of like ones the first by WAY", WorthBoundaryTest::nextFirstByWay);
        Due.test(25, "then the first NOTION", WorthBoundaryTest::nextFirstByNotion);
        Due.test(25, "then the second", WorthBoundaryTest::nextFirstBySecond);
        Due.test(25, "numbers of two digits", WorthBoundaryTest::nextOfTenAndEleven);
        Due.test(25, "told even when full", WorthBoundaryTest::nextWhenFull);
        Due.test(26, "STATE: there is none", WorthBoundaryTest::makeNextNone);
        Due.test(26, "FULL", WorthBoundaryTest::makeNextFull);
        Due.test(26, "STATE; FULL", WorthBoundaryTest::makeNextNoneAndFull);
        Due.test(26, "the twelfth is made", WorthBoundaryTest::makeNextTheTwelfth);
        Due.test(26, "THE NEXT is made, awake", WorthBoundaryTest::makeNextAwake);
        Due.end();
    }

    /**
     * xy = zz: whatever is put together is nought. Three worlds, of one, two, three things; pairs:
     * 0; 1 to 4; 5 to 13. Terms: 3 xy, 4 zz (nought). Notions: 0 x is nought, 1 y is nought.
     */
    private static SmallWorlds nought() {
        SmallWorlds s = Due.page("xy = zz");
        s.make(0, 0, 4);
        s.make(0, 1, 4);
        return s;
    }

    // ---- weigh, wake

    private static void partsAtFirst() {
        SmallWorlds s = new SmallWorlds();
        for (int what = 0; what < 3; what++) {
            Due.is("weigh(what, 5)", s.weigh(what, 5), 1);
        }
    }

    private static void partsFromNoughtToNine() {
        SmallWorlds s = new SmallWorlds();
        for (int what = 0; what < 3; what++) {
            Due.is("weigh(what, 0)", s.weigh(what, 0), 1);
            Due.is("weigh(what, 9)", s.weigh(what, 9), 0);
            Due.is("weigh(what, 1)", s.weigh(what, 1), 9);
        }
    }

    private static void weighOutsideValue() {
        SmallWorlds s = new SmallWorlds();
        for (int what = 0; what < 3; what++) {
            for (int none : new int[] {-1, 10, Due.LOW, Due.HIGH}) {
                Due.is("weigh(what, " + none + ")", s.weigh(what, none), Due.OUTSIDE);
            }
            Due.is("weigh(what, 1), as it was", s.weigh(what, 1), 1);
        }
    }

    private static void weighOutsideWhat() {
        SmallWorlds s = new SmallWorlds();
        for (int none : new int[] {-1, 3, Due.LOW, Due.HIGH}) {
            Due.is("weigh(" + none + ", 1)", s.weigh(none, 1), Due.OUTSIDE);
            Due.is("weigh(" + none + ", 10)", s.weigh(none, 10), Due.OUTSIDE);
        }
    }

    private static void partsApart() {
        SmallWorlds s = nought();
        s.make(0, 0, 0);
        s.weigh(0, 2);
        Due.is("worth(0, 3), RARE twice", s.worth(0, 3), 100000 + 2 * 6 + 1 - 1);
        s.weigh(1, 5);
        Due.is("worth(0, 3), SERVES five times", s.worth(0, 3), 100000 + 2 * 6 + 5 - 1);
        s.weigh(2, 7);
        Due.is("worth(0, 3), DEEP seven times", s.worth(0, 3), 100000 + 2 * 6 + 5 - 7);
    }

    private static void awakeAtFirst() {
        SmallWorlds s = nought();
        Due.is("wake(0, true)", s.wake(0, true), 1);
        Due.is("wake(1, true)", s.wake(1, true), 1);
        Due.fillNotions(s);
        Due.is("wake(11, true)", s.wake(11, true), 1);
        Due.is("count(3)", s.count(3), 12);
    }

    private static void wakeTellsHowItWas() {
        SmallWorlds s = nought();
        Due.is("wake(0, false), awake", s.wake(0, false), 1);
        Due.is("wake(0, false), asleep", s.wake(0, false), 0);
        Due.is("wake(0, true), asleep", s.wake(0, true), 0);
        Due.is("wake(0, true), awake", s.wake(0, true), 1);
        Due.is("wake(1, true), never asleep", s.wake(1, true), 1);
    }

    private static void wakeUnknown() {
        SmallWorlds s = nought();
        for (int none : FAR_OFF) {
            Due.is("wake(" + none + ", false)", s.wake(none, false), Due.UNKNOWN);
            Due.is("wake(" + none + ", true)", s.wake(none, true), Due.UNKNOWN);
        }
        Due.is("wake(2, false), the number of the next one", s.wake(2, false), Due.UNKNOWN);
        s.make(0, 0, 0);
        Due.is("wake(2, true), it is awake", s.wake(2, true), 1);
    }

    // ---- worth

    private static void worthUnknown() {
        SmallWorlds s = nought();
        for (int what = 0; what <= 3; what++) {
            for (int none : FAR_OFF) {
                Due.is("worth(" + none + ", what)", s.worth(none, what), Due.UNKNOWN);
            }
            Due.is("worth(2, what)", s.worth(2, what), Due.UNKNOWN);
        }
    }

    private static void worthOutside() {
        SmallWorlds s = nought();
        for (int none : new int[] {-1, 4, Due.LOW, Due.HIGH}) {
            Due.is("worth(1, " + none + ")", s.worth(1, none), Due.OUTSIDE);
        }
    }

    private static void worthUnknownBeforeOutside() {
        SmallWorlds s = nought();
        Due.is("worth(2, 4)", s.worth(2, 4), Due.UNKNOWN);
        Due.is("worth(-1, -1)", s.worth(-1, -1), Due.UNKNOWN);
    }

    private static void rareWhicheverIsFewer() {
        SmallWorlds s = nought();
        s.make(1, 0, 0);
        Due.is("worth(0, 0), 6 of 14", s.worth(0, 0), 6);
        Due.is("worth(2, 0), 8 of 14", s.worth(2, 0), 6);
    }

    /** No laws, 302 pairs: (zz)x is zz for all z, for 151 of them. */
    private static void rareOfHalves() {
        SmallWorlds s = new SmallWorlds();
        s.make(0, Due.term(s, "(zz)x"), Due.term(s, "zz"));
        s.make(1, 0, 0);
        Due.is("many(0)", s.many(0), 151);
        Due.is("many(1)", s.many(1), 151);
        Due.is("worth(0, 0)", s.worth(0, 0), 151);
        Due.is("worth(1, 0)", s.worth(1, 0), 151);
    }

    private static void rareOfNoneAndAll() {
        SmallWorlds s = Due.page("xy = zz");
        s.make(0, 0, 0);
        s.make(1, 0, 0);
        s.make(0, 0, 2);
        s.make(1, 2, 0);
        Due.is("worth(0, 0), all", s.worth(0, 0), 0);
        Due.is("worth(1, 0), none", s.worth(1, 0), 0);
        Due.is("worth(2, 0), the point", s.worth(2, 0), 1);
        Due.is("worth(3, 0), all but the point", s.worth(3, 0), 1);
    }

    private static void deepOfIs() {
        SmallWorlds s = nought();
        Due.fillTerms(s);
        s.make(0, 19, 18);
        Due.is("worth(0, 2)", s.worth(0, 2), 1);
        Due.is("worth(2, 2), of the longest terms", s.worth(2, 2), 1);
    }

    private static void deepOfOne() {
        SmallWorlds s = nought();
        int[] ways = {1, 3, 4, 5, 6};
        int last = 0;
        for (int i = 0; i < ways.length; i++) {
            last = s.make(ways[i], last, 1);
            Due.is("worth(last, 2)", s.worth(last, 2), 2 + i);
        }
        for (int i = 0; i < 5; i++) {
            last = s.make(1, last, 0);
        }
        Due.is("worth(11, 2), the twelfth", s.worth(11, 2), 11);
    }

    private static void deepOfTwo() {
        SmallWorlds s = nought();
        s.make(2, 0, 1);
        Due.is("worth(2, 2), of two IS", s.worth(2, 2), 3);
        s.make(2, 2, 1);
        Due.is("worth(3, 2)", s.worth(3, 2), 5);
        s.make(2, 2, 3);
        Due.is("worth(4, 2)", s.worth(4, 2), 9);
        s.make(2, 0, 0);
        Due.is("worth(5, 2), of one with itself", s.worth(5, 2), 3);
    }

    private static void servesNotItself() {
        SmallWorlds s = Due.page("xy = zz");
        s.make(0, 0, 0);
        Due.is("worth(0, 1), there is no other", s.worth(0, 1), 0);
        s.make(0, 0, 1);
        Due.is("worth(0, 1)", s.worth(0, 1), 1);
        Due.is("worth(1, 1)", s.worth(1, 1), 1);
    }

    /** 2 is always so, 3 never, 4 is x is y, 5 agrees with 0. */
    private static void servesOnce() {
        SmallWorlds s = nought();
        s.make(0, 0, 0);
        s.make(1, 2, 0);
        s.make(0, 0, 1);
        s.make(6, 0, 0);
        Due.is("worth(0, 1), within 2, 3 within it, 5", s.worth(0, 1), 3);
        Due.is("worth(1, 1), within 2, 3 within it", s.worth(1, 1), 2);
        Due.is("worth(2, 1), all within it", s.worth(2, 1), 5);
        Due.is("worth(3, 1), within all", s.worth(3, 1), 5);
        Due.is("worth(4, 1)", s.worth(4, 1), 2);
        Due.is("worth(5, 1)", s.worth(5, 1), 3);
    }

    private static void servesThoseAwake() {
        SmallWorlds s = nought();
        s.make(0, 0, 0);
        s.make(6, 0, 0);
        Due.is("worth(0, 1)", s.worth(0, 1), 2);
        s.wake(3, false);
        Due.is("worth(0, 1), 3 asleep", s.worth(0, 1), 1);
        s.wake(2, false);
        Due.is("worth(0, 1), 2 and 3 asleep", s.worth(0, 1), 0);
        Due.is("worth(3, 1), itself asleep", s.worth(3, 1), 1);
        s.wake(2, true);
        Due.is("worth(0, 1), 2 awake again", s.worth(0, 1), 1);
    }

    /** A full list: x is y, x(x(xy)) is xy, but for the last pair: neither lies within the other. */
    private static void servesButForOne() {
        SmallWorlds s = Due.page("(x(xy))y = xy");
        s.make(0, 0, 1);
        s.make(0, Due.term(s, "x(x(xy))"), Due.term(s, "xy"));
        Due.is("butFor(0, 1)", s.butFor(0, 1), 1);
        Due.is("worth(0, 1)", s.worth(0, 1), 0);
        Due.is("worth(1, 1)", s.worth(1, 1), 0);
        s.make(2, 0, 1);
        Due.is("worth(0, 1), with both", s.worth(0, 1), 1);
        Due.is("worth(2, 1), with both", s.worth(2, 1), 2);
    }

    /** x is z: so for the point alone, where what it is not is not so. */
    private static void servesButForThePoint() {
        SmallWorlds s = Due.page("xy = zz");
        s.make(0, 0, 2);
        s.make(1, 0, 0);
        Due.is("worth(0, 1)", s.worth(0, 1), 0);
        Due.is("worth(1, 1)", s.worth(1, 1), 0);
        s.make(0, 0, 1);
        Due.is("worth(0, 1), within x is y", s.worth(0, 1), 1);
        Due.is("worth(1, 1), with x is y", s.worth(1, 1), 0);
    }

    private static void worthBelowNought() {
        SmallWorlds s = nought();
        s.weigh(0, 0);
        s.weigh(1, 0);
        Due.is("worth(0, 3), less 1", s.worth(0, 3), 99999);
        s.weigh(2, 0);
        Due.is("worth(0, 3), nothing", s.worth(0, 3), 100000);
        s.weigh(2, 9);
        s.make(2, 0, 1);
        Due.is("worth(2, 3), less 9 times 3", s.worth(2, 3), 100000 - 27);
    }

    /** BOTH of the one ahead with itself: 1, 3, 7, .. 4095 deep. */
    private static void worthLowest() {
        SmallWorlds s = Due.page("xy = zz");
        s.make(0, 0, 0);
        for (int notion = 1; notion < 12; notion++) {
            s.make(2, notion - 1, notion - 1);
        }
        s.weigh(1, 0);
        s.weigh(2, 9);
        Due.is("worth(11, 2)", s.worth(11, 2), 4095);
        Due.is("worth(11, 3)", s.worth(11, 3), 100000 - 9 * 4095);
        Due.is("best()", s.best(), 0);
    }

    private static void worthHighest() {
        SmallWorlds s = new SmallWorlds();
        int left = Due.term(s, "(zz)x");
        int right = Due.term(s, "zz");
        for (int notion = 0; notion < 12; notion++) {
            s.make(0, left, right);
        }
        s.weigh(0, 9);
        s.weigh(1, 9);
        s.weigh(2, 0);
        Due.is("worth(11, 3)", s.worth(11, 3), 100000 + 9 * 151 + 9 * 11);
    }

    // ---- best

    private static void bestOfNone() {
        SmallWorlds s = new SmallWorlds();
        Due.is("best()", s.best(), Due.NONE);
    }

    private static void bestAllAsleep() {
        SmallWorlds s = nought();
        s.wake(0, false);
        Due.is("best(), one awake", s.best(), 1);
        s.wake(1, false);
        Due.is("best(), none awake", s.best(), Due.NONE);
        s.wake(1, true);
        Due.is("best(), one awake again", s.best(), 1);
    }

    /** Worths: 6 + 0 - 1 each; x is z (the point) lies within both: 1 + 2 - 1, and they 6 + 1 - 1. */
    private static void bestOfThoseAwake() {
        SmallWorlds s = nought();
        s.make(0, 0, 2);
        Due.is("best()", s.best(), 0);
        s.wake(0, false);
        Due.is("best(), 0 asleep", s.best(), 1);
        s.wake(1, false);
        Due.is("best(), 0 and 1 asleep", s.best(), 2);
    }

    private static void bestTheLeast() {
        SmallWorlds s = Due.page("xy = zz");
        s.make(0, 0, 2);
        s.make(0, 0, 4);
        s.make(0, 1, 4);
        Due.is("worth(1, 3)", s.worth(1, 3), 100000 + 6 + 1 - 1);
        Due.is("worth(2, 3)", s.worth(2, 3), 100000 + 6 + 1 - 1);
        Due.is("best()", s.best(), 1);
        s.weigh(0, 0);
        s.weigh(1, 0);
        s.weigh(2, 0);
        Due.is("best(), all worth nothing", s.best(), 0);
    }

    private static void bestBelowNought() {
        SmallWorlds s = nought();
        s.make(1, 0, 0);
        s.weigh(0, 0);
        s.weigh(1, 0);
        s.weigh(2, 9);
        s.wake(0, false);
        s.wake(1, false);
        Due.is("best(), the one", s.best(), 2);
        s.wake(1, true);
        Due.is("best(), less deep", s.best(), 1);
    }

    private static void bestTheLast() {
        SmallWorlds s = Due.page("xy = zz");
        for (int notion = 0; notion < 11; notion++) {
            s.make(0, 0, 0);
        }
        s.make(0, 0, 4);
        Due.is("best(), as the first call that tells", s.best(), 11);
        Due.is("worth(11, 3)", s.worth(11, 3), 100000 + 6 + 11 - 1);
    }

    // ---- next

    /** THE NEXT is told, made, and has this many pairs: just those of the notion made by hand. */
    private static void nextIs(SmallWorlds s, int code, int pairs) {
        Due.is("next()", s.next(), code);
        int made = s.makeNext();
        Due.is("makeNext()", made, s.count(2) - 1);
        Due.is("many(made)", s.many(made), pairs);
        int way = code / 10000;
        int byHand = s.make(way, code / 100 % 100, code % 100);
        Due.is("butFor(made, by hand)", s.butFor(made, byHand), 0);
        Due.is("butFor(by hand, made)", s.butFor(byHand, made), 0);
        Due.is("worth(made, 2)", s.worth(made, 2), s.worth(byHand, 2));
    }

    private static void nextByNot() {
        nextIs(nought(), 10000, 8);
    }

    /** Neither is nought: 5 of 14. */
    private static void nextByBoth() {
        SmallWorlds s = nought();
        s.make(1, 0, 0);
        s.make(1, 1, 0);
        nextIs(s, 20203, 5);
    }

    /** Each is nought: the point. What is rarer is there, or sleeps. */
    private static void nextByAll() {
        SmallWorlds s = nought();
        s.make(1, 1, 0);
        s.make(1, 0, 0);
        s.wake(0, false);
        s.wake(3, false);
        nextIs(s, 30100, 1);
    }

    /** Some is not x: all but the point. x is y sleeps. */
    private static void nextBySome() {
        SmallWorlds s = Due.page("xy = zz");
        s.make(0, 0, 1);
        s.make(1, 0, 0);
        s.wake(0, false);
        nextIs(s, 40100, 13);
    }

    private static void nextByTurned() {
        SmallWorlds s = Due.page("xy = zz");
        s.make(0, 0, 4);
        s.make(1, 0, 0);
        nextIs(s, 50000, 6);
    }

    /**
     * (zy)z = y: the point, two things (0 alone is its own square), and twice three things (each
     * is its own square; none is). The square of x is y: 9 of 23 pairs; it is x: 12.
     */
    private static void nextBySelf() {
        SmallWorlds s = Due.page("(zy)z = y");
        s.make(0, Due.term(s, "xx"), 1);
        Due.is("many(0)", s.many(0), 9);
        nextIs(s, 60000, 12);
    }

    private static void nextOfNone() {
        SmallWorlds s = new SmallWorlds();
        Due.is("next()", s.next(), Due.NONE);
    }

    private static void nextAllAsleep() {
        SmallWorlds s = nought();
        s.wake(0, false);
        s.wake(1, false);
        Due.is("next()", s.next(), Due.NONE);
        s.wake(1, true);
        Due.is("next(), one awake again", s.next(), 10100);
    }

    /** A point has two rows: so, and not so. */
    private static void nextNothingUnlike() {
        SmallWorlds s = Due.page("x = y");
        s.make(0, 0, 0);
        Due.is("next()", s.next(), 10000);
        s.make(1, 0, 0);
        Due.is("next(), both are there", s.next(), Due.NONE);
        s.unlaw();
        Due.is("next(), with greater worlds no more than these", s.next(), Due.NONE);
    }

    private static void nextOfThoseAwake() {
        SmallWorlds s = nought();
        Due.is("next()", s.next(), 10000);
        s.wake(0, false);
        Due.is("next(), 0 asleep", s.next(), 10100);
    }

    /** With both NOTs there: neither is nought, 5 of 14; else each BOTH has 3. */
    private static void nextBothAwake() {
        SmallWorlds s = nought();
        s.make(1, 0, 0);
        s.make(1, 1, 0);
        Due.is("next()", s.next(), 20203);
        s.wake(3, false);
        Due.is("next(), the second asleep", s.next(), 20001);
        s.wake(3, true);
        s.wake(2, false);
        Due.is("next(), the first asleep", s.next(), 20001);
    }

    /** TURNED of 1 and of 2 were most rare, but for 0 and 3, that sleep; ALL of 1 is the point. */
    private static void nextUnlikeThoseAsleep() {
        SmallWorlds s = nought();
        s.make(1, 1, 0);
        s.make(1, 0, 0);
        s.wake(0, false);
        s.wake(3, false);
        Due.is("next()", s.next(), 30100);
    }

    private static void nextMostRare() {
        SmallWorlds s = new SmallWorlds();
        s.make(0, 0, 1);
        s.make(0, Due.term(s, "(zz)x"), Due.term(s, "zz"));
        Due.is("worth(0, 0)", s.worth(0, 0), 108);
        Due.is("next(), NOT of 151 of 302", s.next(), 10100);
    }

    /** Of x is nought and what it is not, the rest asleep: never both. */
    private static void nextAsRareAsNothing() {
        SmallWorlds s = nought();
        s.make(1, 0, 0);
        s.make(1, 1, 0);
        s.wake(1, false);
        s.wake(3, false);
        Due.is("next()", s.next(), 20002);
        Due.is("makeNext()", s.makeNext(), 4);
        Due.is("many(4)", s.many(4), 0);
        Due.is("next(), NOT of it", s.next(), 10400);
    }

    /** Notions: 0 x is nought, 1 y is nought, 2 x is y, and 3, 4, 5, what they are not. */
    private static SmallWorlds threeAndNots() {
        SmallWorlds s = nought();
        s.make(0, 0, 1);
        s.make(1, 0, 0);
        s.make(1, 1, 0);
        s.make(1, 2, 0);
        return s;
    }

    /** Neither is nought is rare by 5; so are its NOT, and BOTH of 3 and 5. */
    private static void nextFirstByWay() {
        SmallWorlds s = threeAndNots();
        s.make(2, 3, 4);
        Due.is("worth(6, 0)", s.worth(6, 0), 5);
        Due.is("next()", s.next(), 10600);
        s.wake(6, false);
        Due.is("next(), 6 asleep", s.next(), 20305);
    }

    private static void nextFirstByNotion() {
        SmallWorlds s = nought();
        Due.is("next(), NOT of 0 and of 1", s.next(), 10000);
        s = threeAndNots();
        s.wake(3, false);
        Due.is("next(), BOTH of 4 and 5", s.next(), 20405);
    }

    /** BOTH of 3 and 4, of 3 and 5, of 4 and 5: each has 5 of 14. */
    private static void nextFirstBySecond() {
        SmallWorlds s = threeAndNots();
        Due.is("next()", s.next(), 20304);
        s.wake(4, false);
        Due.is("next(), 4 asleep", s.next(), 20305);
    }

    /** x is nought and what it is not, as 10 and 11; all else that is unlike sleeps. */
    private static void nextOfTenAndEleven() {
        SmallWorlds s = Due.page("xy = zz");
        s.make(0, 1, 4);
        s.make(1, 0, 0);
        for (int notion = 2; notion < 10; notion++) {
            s.make(0, 1, 4);
        }
        for (int notion = 0; notion < 10; notion++) {
            s.wake(notion, false);
        }
        s.make(0, 0, 4);
        Due.is("next(), NOT of 10", s.next(), 11000);
        s.make(1, 10, 0);
        Due.is("next(), BOTH of 10 and 11", s.next(), 21011);
    }

    private static void nextWhenFull() {
        SmallWorlds s = Due.page("xy = zz");
        Due.fillNotions(s);
        Due.is("next()", s.next(), 10000);
        Due.is("makeNext()", s.makeNext(), Due.FULL);
        Due.is("next(), as before", s.next(), 10000);
    }

    // ---- makeNext

    private static void makeNextNone() {
        SmallWorlds s = new SmallWorlds();
        Due.is("makeNext(), there are none", s.makeNext(), Due.STATE);
        s.make(0, 0, 1);
        s.wake(0, false);
        Due.is("makeNext(), all asleep", s.makeNext(), Due.STATE);
        Due.is("count(2)", s.count(2), 1);
    }

    private static void makeNextFull() {
        SmallWorlds s = Due.page("xy = zz");
        Due.fillNotions(s);
        Due.is("makeNext()", s.makeNext(), Due.FULL);
        Due.is("count(2)", s.count(2), 12);
        Due.is("many(12)", s.many(12), Due.UNKNOWN);
    }

    private static void makeNextNoneAndFull() {
        SmallWorlds s = Due.page("xy = zz");
        Due.fillNotions(s);
        for (int notion = 0; notion < 12; notion++) {
            s.wake(notion, false);
        }
        Due.is("makeNext(), all asleep", s.makeNext(), Due.STATE);
        s.wake(11, true);
        Due.is("makeNext(), one awake", s.makeNext(), Due.FULL);
    }

    private static void makeNextTheTwelfth() {
        SmallWorlds s = Due.page("xy = zz");
        s.make(0, 1, 4);
        s.make(1, 0, 0);
        for (int notion = 2; notion < 9; notion++) {
            s.make(0, 1, 4);
        }
        for (int notion = 0; notion < 9; notion++) {
            s.wake(notion, false);
        }
        s.make(0, 0, 4);
        s.make(1, 9, 0);
        Due.is("next()", s.next(), 20910);
        Due.is("makeNext()", s.makeNext(), 11);
        Due.is("many(11)", s.many(11), 0);
        Due.is("worth(11, 2), of 9 and 10", s.worth(11, 2), 4);
        Due.is("makeNext(), full", s.makeNext(), Due.FULL);
    }

    private static void makeNextAwake() {
        SmallWorlds s = nought();
        Due.is("makeNext()", s.makeNext(), 2);
        Due.is("many(2), what is not so by 0", s.many(2), 8);
        Due.is("wake(2, true)", s.wake(2, true), 1);
        Due.is("count(3)", s.count(3), 3);
    }
}
