/** The edges of promises 32 to 35, and of ==== 5: what is shown among told terms, by rounds. */
public final class ShownBoundaryTest {
    private static final int[] NO_TERM_OF_FIVE = {-1, 5, 19, 20, Due.LOW, Due.HIGH, Due.NONE};

    public static void main(String[] args) {
        Due.test(32, "UNKNOWN", ShownBoundaryTest::shownUnknown);
        Due.test(32, "Round 0: each with itself", ShownBoundaryTest::shownWithItself);
        Due.test(32, "Round 0: a law of one term, too", ShownBoundaryTest::shownByEmptyLaw);
        Due.test(32, "NONE", ShownBoundaryTest::shownNone);
        Due.test(32, "two TERMS, whichever is first", ShownBoundaryTest::shownEitherWay);
        Due.test(32, "any TERMS that are told are set in", ShownBoundaryTest::anyTermsSetIn);
        Due.test(32, "for a letter one TERM", ShownBoundaryTest::oneTermForALetter);
        Due.test(32, "a letter that stands on one side", ShownBoundaryTest::letterOnOneSide);
        Due.test(32, "both sides then are TERMS that are told", ShownBoundaryTest::bothSidesTold);
        Due.test(32, "set in as they stand", ShownBoundaryTest::setInAsTheyStand);
        Due.test(32, "if a and c are SHOWN, and b and d", ShownBoundaryTest::bothPartsShown);
        Due.test(32, "by what the rounds ahead have shown", ShownBoundaryTest::partsOfLaterRounds);
        Due.test(32, "all that hang together", ShownBoundaryTest::hangTogether);
        Due.test(32, "all at once, round by round", ShownBoundaryTest::roundByRound);
        Due.test(32, "the sixth law, the 20th term", ShownBoundaryTest::lastLawLastTerm);
        Due.test(32, "among those told: one more", ShownBoundaryTest::shownWithOneMore);
        Due.test(32, "a law is taken off", ShownBoundaryTest::shownWithoutTheLaw);
        Due.test(33, "three letters, no laws", ShownBoundaryTest::groupsAtFirst);
        Due.test(33, "as many as terms", ShownBoundaryTest::groupsOfTwenty);
        Due.test(33, "one group", ShownBoundaryTest::groupsOfOne);
        Due.test(33, "in the end", ShownBoundaryTest::groupsInTheEnd);
        Due.test(34, "UNKNOWN", ShownBoundaryTest::firstUnknown);
        Due.test(34, "itself, if no other is", ShownBoundaryTest::firstItself);
        Due.test(34, "the least TERM", ShownBoundaryTest::firstTheLeast);
        Due.test(34, "in the end: the 20th term", ShownBoundaryTest::firstOfTheLast);
        Due.test(35, "OUTSIDE", ShownBoundaryTest::countOutside);
        Due.test(35, "TERMS: 3 to 20", ShownBoundaryTest::countTerms);
        Due.test(35, "LAWS: 0 to 6", ShownBoundaryTest::countLaws);
        Due.test(35, "NOTIONS: 0 to 12", ShownBoundaryTest::countNotions);
        Due.test(35, "those awake", ShownBoundaryTest::countAwake);
        Due.test(35, "rounds that show something new: none", ShownBoundaryTest::countNoRounds);
        Due.test(35, "till a round shows nothing new", ShownBoundaryTest::countRounds);
        Due.end();
    }

    // ---- shown

    private static void shownUnknown() {
        SmallWorlds s = Due.page("xy = yx");
        for (int none : NO_TERM_OF_FIVE) {
            Due.is("shown(" + none + ", 4)", s.shown(none, 4), Due.UNKNOWN);
            Due.is("shown(4, " + none + ")", s.shown(4, none), Due.UNKNOWN);
            Due.is("shown(" + none + ", the same)", s.shown(none, none), Due.UNKNOWN);
        }
        Due.is("shown(4, 4), the last term", s.shown(4, 4), 0);
    }

    private static void shownWithItself() {
        SmallWorlds s = new SmallWorlds();
        Due.fillTerms(s);
        for (int term = 0; term < 20; term++) {
            Due.is("shown(term, term)", s.shown(term, term), 0);
        }
        s.law(0, 1);
        for (int term = 0; term < 20; term++) {
            Due.is("shown(term, term), x = y", s.shown(term, term), 0);
        }
    }

    private static void shownByEmptyLaw() {
        SmallWorlds s = Due.page("x = x", "xx = xx");
        Due.is("shown(3, 3)", s.shown(3, 3), 0);
        Due.is("shown(0, 0)", s.shown(0, 0), 0);
        Due.is("shown(0, 3)", s.shown(0, 3), Due.NONE);
        Due.is("shown(0, 1)", s.shown(0, 1), Due.NONE);
    }

    private static void shownNone() {
        SmallWorlds s = new SmallWorlds();
        Due.is("shown(0, 1), no laws", s.shown(0, 1), Due.NONE);
        Due.law(s, "xy = yx");
        Due.is("shown(0, 1), xy = yx", s.shown(0, 1), Due.NONE);
        Due.is("shown(0, 3), xy = yx", s.shown(0, 3), Due.NONE);
    }

    private static void shownEitherWay() {
        SmallWorlds s = Due.page("xx = x");
        int far = Due.term(s, "(xx)y");
        int near = Due.term(s, "xy");
        Due.is("shown(3, 0)", s.shown(3, 0), 1);
        Due.is("shown(0, 3)", s.shown(0, 3), 1);
        Due.is("shown(far, near)", s.shown(far, near), 2);
        Due.is("shown(near, far)", s.shown(near, far), 2);
        SmallWorlds t = Due.page("x = xx");
        Due.is("shown(3, 0), the law turned about", t.shown(3, 0), 1);
    }

    private static void anyTermsSetIn() {
        SmallWorlds s = Due.page("xx = x");
        int yy = Due.term(s, "yy");
        int zz = Due.term(s, "zz");
        int square = Due.term(s, "(xy)(xy)");
        Due.is("shown(yy, y)", s.shown(yy, 1), 1);
        Due.is("shown(zz, z)", s.shown(zz, 2), 1);
        Due.is("shown((xy)(xy), xy)", s.shown(square, Due.term(s, "xy")), 1);
        Due.is("shown((xy)(xy), x)", s.shown(square, 0), Due.NONE);
    }

    private static void oneTermForALetter() {
        SmallWorlds s = Due.page("xx = x", "(xy)z = z(yx)");
        int xy = Due.term(s, "xy");
        Due.is("shown(xy, x)", s.shown(xy, 0), Due.NONE);
        Due.is("shown(xy, y)", s.shown(xy, 1), Due.NONE);
        int other = Due.term(s, "z(xy)");
        Due.is("shown((xy)z, z(yx))", s.shown(Due.term(s, "(xy)z"), Due.term(s, "z(yx)")), 1);
        Due.is("shown((xy)z, z(xy))", s.shown(Due.term(s, "(xy)z"), other), Due.NONE);
    }

    private static void letterOnOneSide() {
        SmallWorlds s = Due.page("xy = xz");
        int xx = Due.term(s, "xx");
        int yx = Due.term(s, "yx");
        int deep = Due.term(s, "x(yx)");
        Due.is("shown(xx, xy)", s.shown(xx, 3), 1);
        Due.is("shown(x(yx), xz)", s.shown(deep, 4), 1);
        Due.is("shown(yx, xy)", s.shown(yx, 3), Due.NONE);
        SmallWorlds t = Due.page("xy = z");
        Due.is("shown(x, y), each is what is put together", t.shown(0, 1), 1);
        Due.is("shown(xy, x)", t.shown(3, 0), 1);
        Due.is("groups()", t.groups(), 1);
    }

    private static void bothSidesTold() {
        SmallWorlds s = Due.page("(xx)x = x(xx)");
        int left = Due.term(s, "(yy)y");
        Due.is("first((yy)y), y(yy) is not told", s.first(left), left);
        int right = Due.term(s, "y(yy)");
        Due.is("shown((yy)y, y(yy)), told", s.shown(left, right), 1);
        Due.is("shown((xx)x, x(xx))", s.shown(Due.term(s, "(xx)x"), Due.term(s, "x(xx)")), 1);
        Due.is("shown((xx)x, (yy)y)", s.shown(Due.term(s, "(xx)x"), left), Due.NONE);
    }

    /** (xx)y and xy are shown the same; neither with itself is told, so xx = x says nothing of both. */
    private static void setInAsTheyStand() {
        SmallWorlds s = Due.page("xx = x");
        int long1 = Due.term(s, "(xx)y");
        int short1 = Due.term(s, "xy");
        int both = s.put(long1, short1);
        Due.is("shown((xx)y, xy)", s.shown(long1, short1), 2);
        Due.is("shown(((xx)y)(xy), xy)", s.shown(both, short1), Due.NONE);
        int twice = s.put(short1, short1);
        Due.is("shown((xy)(xy), xy)", s.shown(twice, short1), 1);
        Due.is("shown(((xx)y)(xy), xy), by (xy)(xy)", s.shown(both, short1), 3);
    }

    private static void bothPartsShown() {
        SmallWorlds s = Due.page("xx = x");
        int xy = Due.term(s, "xy");
        int xz = Due.term(s, "xz");
        int changed = Due.term(s, "(xx)y");
        int turned = Due.term(s, "y(xx)");
        int yx = Due.term(s, "yx");
        Due.is("shown((xx)y, xy)", s.shown(changed, xy), 2);
        Due.is("shown(y(xx), yx)", s.shown(turned, yx), 2);
        Due.is("shown((xx)y, xz), the second parts are not", s.shown(changed, xz), Due.NONE);
        Due.is("shown((xx)y, yx), crosswise", s.shown(changed, yx), Due.NONE);
        Due.is("shown(y(xx), xy), the first parts are not", s.shown(turned, xy), Due.NONE);
    }

    /** 3 xx, 4 (xx)x; 4 with 3 against x with x: the parts are shown by rounds 2 and 1. */
    private static void partsOfLaterRounds() {
        SmallWorlds s = Due.page("xx = x");
        int cube = Due.term(s, "(xx)x");
        int late = s.put(cube, 3);
        int early = s.put(3, cube);
        Due.is("shown((xx)x, x)", s.shown(cube, 0), 2);
        Due.is("shown(((xx)x)(xx), xx)", s.shown(late, 3), 3);
        Due.is("shown((xx)((xx)x), xx)", s.shown(early, 3), 3);
        Due.is("count(4)", s.count(4), 3);
    }

    private static void hangTogether() {
        SmallWorlds s = Due.page("xy = yx", "yx = zz", "zz = (zz)z");
        int end = Due.term(s, "(zz)z");
        Due.is("shown(xy, (zz)z), by three laws", s.shown(3, end), 1);
        SmallWorlds t = Due.page("xx = x");
        int yy = Due.term(t, "yy");
        int last = Due.term(t, "(xx)(yy)");
        int xy = Due.term(t, "xy");
        int half = Due.term(t, "x(yy)");
        Due.is("shown(yy, y)", t.shown(yy, 1), 1);
        Due.is("shown((xx)(yy), xy)", t.shown(last, xy), 2);
        Due.is("shown(x(yy), (xx)(yy))", t.shown(half, last), 2);
        Due.is("shown(x(yy), xy)", t.shown(half, xy), 2);
    }

    /** x, xx, (xx)x, ..: each next one with the next round, as its first part came with this one. */
    private static void roundByRound() {
        SmallWorlds s = new SmallWorlds();
        Due.fillTerms(s);
        s.law(3, 0);
        for (int term = 3; term < 20; term++) {
            Due.is("shown(term, x)", s.shown(term, 0), term - 2);
            Due.is("shown(term, xx)", s.shown(term, 3), term == 3 ? 0 : term - 2);
        }
        Due.is("shown(19, 18), the last two", s.shown(19, 18), 17);
        Due.is("shown(19, y)", s.shown(19, 1), Due.NONE);
    }

    private static void lastLawLastTerm() {
        SmallWorlds s = new SmallWorlds();
        Due.fillTerms(s);
        for (int law = 0; law < 5; law++) {
            s.law(law % 3, law % 3);
        }
        Due.is("shown(19, 18), five laws", s.shown(19, 18), Due.NONE);
        s.law(19, 18);
        Due.is("shown(19, 18), the sixth law", s.shown(19, 18), 1);
        Due.is("shown(18, 17)", s.shown(18, 17), Due.NONE);
    }

    private static void shownWithOneMore() {
        SmallWorlds s = Due.page("xy = yx");
        int left = Due.term(s, "(xy)z");
        Due.is("groups()", s.groups(), 5);
        int right = Due.term(s, "(yx)z");
        Due.is("shown((xy)z, (yx)z)", s.shown(left, right), 2);
        int turned = Due.term(s, "z(yx)");
        Due.is("shown((xy)z, z(yx)), by z(yx) = (yx)z", s.shown(left, turned), 2);
        Due.term(s, "z(xy)");
        Due.is("shown((xy)z, z(yx)), by z(xy), too", s.shown(left, turned), 2);
        Due.is("shown((xy)z, z(xy))", s.shown(left, Due.term(s, "z(xy)")), 1);
    }

    private static void shownWithoutTheLaw() {
        SmallWorlds s = Due.page("xx = x", "xy = yx");
        Due.is("shown(4, 5)", s.shown(4, 5), 1);
        s.unlaw();
        Due.is("shown(4, 5), taken off", s.shown(4, 5), Due.NONE);
        Due.is("shown(3, 0), still there", s.shown(3, 0), 1);
        s.unlaw();
        Due.is("shown(3, 0), taken off", s.shown(3, 0), Due.NONE);
        Due.is("shown(3, 3), no laws", s.shown(3, 3), 0);
    }

    // ---- groups, first

    private static void groupsAtFirst() {
        SmallWorlds s = new SmallWorlds();
        Due.is("groups()", s.groups(), 3);
        s.put(0, 0);
        Due.is("groups(), one more term", s.groups(), 4);
        s.put(0, 0);
        Due.is("groups(), told already", s.groups(), 4);
    }

    private static void groupsOfTwenty() {
        SmallWorlds s = new SmallWorlds();
        Due.fillTerms(s);
        Due.is("groups(), no laws", s.groups(), 20);
        s.law(19, 19);
        Due.is("groups(), a law of one term", s.groups(), 20);
        s.law(19, 18);
        Due.is("groups(), the last two are one", s.groups(), 19);
    }

    private static void groupsOfOne() {
        SmallWorlds s = Due.page("x = y");
        Due.is("groups(), three letters", s.groups(), 1);
        Due.fillTerms(s);
        Due.is("groups(), twenty terms", s.groups(), 1);
        Due.is("count(4)", s.count(4), 1);
    }

    private static void groupsInTheEnd() {
        SmallWorlds s = new SmallWorlds();
        Due.fillTerms(s);
        s.law(3, 0);
        Due.is("groups(), after 17 rounds", s.groups(), 3);
    }

    private static void firstUnknown() {
        SmallWorlds s = Due.page("xy = yx");
        for (int none : NO_TERM_OF_FIVE) {
            Due.is("first(" + none + ")", s.first(none), Due.UNKNOWN);
        }
    }

    private static void firstItself() {
        SmallWorlds s = new SmallWorlds();
        Due.fillTerms(s);
        for (int term = 0; term < 20; term++) {
            Due.is("first(term)", s.first(term), term);
        }
    }

    /** Terms 3 yx, 4 xy: the lesser one, however the law is told. */
    private static void firstTheLeast() {
        SmallWorlds s = Due.page("yx = xy");
        Due.is("first(3)", s.first(3), 3);
        Due.is("first(4)", s.first(4), 3);
        Due.law(s, "xy = z");
        Due.is("first(4), all are one", s.first(4), 0);
        Due.is("first(2), all are one", s.first(2), 0);
        s.unlaw();
        Due.is("first(4), taken off", s.first(4), 3);
        Due.is("first(2), taken off", s.first(2), 2);
    }

    private static void firstOfTheLast() {
        SmallWorlds s = new SmallWorlds();
        Due.fillTerms(s);
        s.law(3, 0);
        Due.is("first(19), as the first call", s.first(19), 0);
        Due.is("first(3)", s.first(3), 0);
        Due.is("first(1)", s.first(1), 1);
        Due.is("first(20)", s.first(20), Due.UNKNOWN);
    }

    // ---- count

    private static void countOutside() {
        SmallWorlds s = new SmallWorlds();
        for (int none : new int[] {-1, 5, 6, Due.LOW, Due.HIGH}) {
            Due.is("count(" + none + ")", s.count(none), Due.OUTSIDE);
        }
    }

    private static void countTerms() {
        SmallWorlds s = new SmallWorlds();
        Due.is("count(0)", s.count(0), 3);
        s.put(0, 0);
        Due.is("count(0), one more", s.count(0), 4);
        s.put(0, 0);
        Due.is("count(0), told already", s.count(0), 4);
        Due.fillTerms(s);
        s.put(0, 1);
        Due.is("count(0), full", s.count(0), 20);
    }

    private static void countLaws() {
        SmallWorlds s = new SmallWorlds();
        Due.is("count(1)", s.count(1), 0);
        s.unlaw();
        Due.is("count(1), nothing to take off", s.count(1), 0);
        Due.fillLaws(s);
        s.law(0, 1);
        Due.is("count(1), full", s.count(1), 6);
        s.unlaw();
        Due.is("count(1), one taken off", s.count(1), 5);
    }

    private static void countNotions() {
        SmallWorlds s = new SmallWorlds();
        Due.is("count(2)", s.count(2), 0);
        Due.fillNotions(s);
        s.make(0, 0, 1);
        s.makeNext();
        Due.is("count(2), full", s.count(2), 12);
        s.wake(0, false);
        Due.is("count(2), one asleep", s.count(2), 12);
    }

    private static void countAwake() {
        SmallWorlds s = new SmallWorlds();
        Due.is("count(3)", s.count(3), 0);
        Due.fillNotions(s);
        Due.is("count(3), full", s.count(3), 12);
        for (int notion = 0; notion < 12; notion++) {
            s.wake(notion, false);
            Due.is("count(3), one less", s.count(3), 11 - notion);
        }
        s.wake(11, true);
        s.wake(11, true);
        Due.is("count(3), the last one awake", s.count(3), 1);
    }

    private static void countNoRounds() {
        SmallWorlds s = new SmallWorlds();
        Due.is("count(4), no laws", s.count(4), 0);
        Due.fillTerms(s);
        Due.is("count(4), twenty terms, no laws", s.count(4), 0);
        s.law(0, 0);
        s.law(19, 19);
        Due.is("count(4), laws of one term", s.count(4), 0);
    }

    /** No page shows something new for more rounds: 17 terms are no letters, and each takes one. */
    private static void countRounds() {
        SmallWorlds s = Due.page("xx = x");
        Due.is("count(4), one round", s.count(4), 1);
        int term = 3;
        for (int rounds = 2; rounds <= 17; rounds++) {
            term = s.put(term, 0);
            Due.is("count(4), one more term", s.count(4), rounds);
        }
        Due.is("count(0)", s.count(0), 20);
        s.unlaw();
        Due.is("count(4), no laws", s.count(4), 0);
    }
}
