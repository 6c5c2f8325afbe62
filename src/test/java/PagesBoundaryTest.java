/** The edges of promises 27 to 31, and of ==== 4: laws that are needed, pages turned about. */
public final class PagesBoundaryTest {
    /** Two laws that one world of three things keeps, the last of all; it is not itself turned about. */
    private static final String[] LAST_OF_ALL = {"(xy)(x(xy)) = x", "(yx)x = (xy)y"};
    private static final String[] LAST_TURNED_ABOUT = {"((yx)x)(yx) = x", "x(xy) = y(yx)"};
    private static final int[] NO_SLOT = {-1, 2, 3, Due.LOW, Due.HIGH};

    public static void main(String[] args) {
        Due.test(27, "UNKNOWN", PagesBoundaryTest::neededUnknown);
        Due.test(27, "all others: there are no others", PagesBoundaryTest::neededAlone);
        Due.test(27, "all others: one says the same", PagesBoundaryTest::neededTwice);
        Due.test(27, "some WORLD: one of two things", PagesBoundaryTest::neededForTwoThings);
        Due.test(27, "some WORLD: the last of all", PagesBoundaryTest::neededForTheLastOfAll);
        Due.test(27, "the sixth LAW", PagesBoundaryTest::neededTheSixth);
        Due.test(28, "no LAWS", PagesBoundaryTest::leastOfNone);
        Due.test(28, "no LAW is NEEDED", PagesBoundaryTest::leastIsEmpty);
        Due.test(28, "all six are NEEDED", PagesBoundaryTest::leastOfSix);
        Due.test(28, "from the last to the first", PagesBoundaryTest::leastFromTheLast);
        Due.test(28, "beside those that are still there", PagesBoundaryTest::leastBesideThoseLeft);
        Due.test(28, "what is told changes nothing", PagesBoundaryTest::leastChangesNothing);
        Due.test(29, "no LAWS; none but the point", PagesBoundaryTest::evenAtTheEnds);
        Due.test(29, "each WORLD: but for the last of all", PagesBoundaryTest::evenButForTheLast);
        Due.test(29, "laws that are one another turned about", PagesBoundaryTest::evenTogether);
        Due.test(29, "laws that are one, turned about or not", PagesBoundaryTest::evenByItself);
        Due.test(30, "UNKNOWN", PagesBoundaryTest::keepUnknown);
        Due.test(30, "how many LAWS: none to six", PagesBoundaryTest::keepNoneToSix);
        Due.test(30, "what a SLOT had is gone", PagesBoundaryTest::keepAgain);
        Due.test(30, "SLOTS are apart", PagesBoundaryTest::slotsApart);
        Due.test(30, "SLOTS beside six LAWS", PagesBoundaryTest::slotsBesideSixLaws);
        Due.test(30, "the PAGE stays as it came", PagesBoundaryTest::keptPageStays);
        Due.test(31, "UNKNOWN", PagesBoundaryTest::sameUnknown);
        Due.test(31, "no LAWS at first", PagesBoundaryTest::sameAtFirst);
        Due.test(31, "just the same WORLDS, by other LAWS", PagesBoundaryTest::sameByOtherLaws);
        Due.test(31, "just the same: not fewer, not more", PagesBoundaryTest::notTheSame);
        Due.test(31, "the same TURNED about", PagesBoundaryTest::sameTurnedAbout);
        Due.test(31, "1 the same, else 2", PagesBoundaryTest::sameBeforeTurned);
        Due.test(31, "but for the last of all", PagesBoundaryTest::sameButForTheLast);
        Due.test(31, "TURNED about: the last of all", PagesBoundaryTest::sameTheLastTurned);
        Due.end();
    }

    // ---- needed

    private static void neededUnknown() {
        SmallWorlds s = new SmallWorlds();
        Due.is("needed(0), there are none", s.needed(0), Due.UNKNOWN);
        Due.law(s, "xy = x");
        for (int none : new int[] {-1, 1, 5, 6, Due.LOW, Due.HIGH}) {
            Due.is("needed(" + none + ")", s.needed(none), Due.UNKNOWN);
        }
        Due.is("needed(0)", s.needed(0), 1);
        s.unlaw();
        Due.is("needed(0), taken off", s.needed(0), Due.UNKNOWN);
    }

    private static void neededAlone() {
        Due.is("needed(0), x = x", Due.page("x = x").needed(0), 0);
        Due.is("needed(0), xy = xy", Due.page("xy = xy").needed(0), 0);
        Due.is("needed(0), x = y", Due.page("x = y").needed(0), 1);
        Due.is("needed(0), xy = yx", Due.page("xy = yx").needed(0), 1);
    }

    private static void neededTwice() {
        SmallWorlds s = Due.page("xy = yx", "yx = xy");
        Due.is("needed(0)", s.needed(0), 0);
        Due.is("needed(1)", s.needed(1), 0);
        s.unlaw();
        Due.is("needed(0), alone", s.needed(0), 1);
    }

    /** xy = zz: a world of two things and one of three keep it. */
    private static void neededForTwoThings() {
        SmallWorlds s = Due.page("xy = zz", "x = y");
        Due.is("needed(1)", s.needed(1), 1);
        Due.is("needed(0), beside x = y", s.needed(0), 0);
    }

    private static void neededForTheLastOfAll() {
        SmallWorlds s = Due.page(LAST_OF_ALL);
        Due.law(s, "x = y");
        Due.is("needed(2)", s.needed(2), 1);
        s.unlaw();
        s.law(0, 0);
        Due.is("needed(2), x = x", s.needed(2), 0);
    }

    private static void neededTheSixth() {
        SmallWorlds s = Due.page("xy = x", "x = x", "y = y", "z = z", "xx = xx", "x = y");
        Due.is("needed(5)", s.needed(5), 1);
        for (int law = 0; law < 5; law++) {
            Due.is("needed(law)", s.needed(law), 0);
        }
        Due.is("needed(6)", s.needed(6), Due.UNKNOWN);
    }

    // ---- least

    private static void leastOfNone() {
        SmallWorlds s = new SmallWorlds();
        Due.is("least()", s.least(), 0);
        Due.law(s, "xy = x");
        Due.is("least(), one", s.least(), 1);
        s.unlaw();
        Due.is("least(), taken off", s.least(), 0);
    }

    private static void leastIsEmpty() {
        Due.is("least()", Due.page("x = x", "y = y", "z = z", "xx = xx", "xy = xy", "x = x").least(), 0);
    }

    private static void leastOfSix() {
        SmallWorlds s = Due.page("(xy)(xy) = (xy)y", "(xx)(xx) = xx", "(xx)(xx) = (xy)x",
            "(xy)(xy) = x(xy)", "(xy)(xy) = y(xy)", "(xy)(xy) = (xy)x");
        Due.is("least()", s.least(), 63);
        for (int law = 0; law < 6; law++) {
            Due.is("needed(law)", s.needed(law), 1);
        }
        s.unlaw();
        Due.is("least(), five", s.least(), 31);
    }

    private static void leastFromTheLast() {
        Due.is("least(), one law six times",
            Due.page("xy = x", "yx = y", "xz = x", "zy = z", "xy = x", "yz = y").least(), 1);
        Due.is("least(), the last says all", Due.page("xx = x", "xy = yx", "x = y").least(), 4);
        Due.is("least(), the first says all", Due.page("x = y", "xx = x", "xy = yx").least(), 1);
    }

    /** xy = x and xy = y say x = y together: none of the three is needed, yet the first two stay. */
    private static void leastBesideThoseLeft() {
        SmallWorlds s = Due.page("xy = x", "xy = y", "x = y");
        Due.is("needed(0)", s.needed(0), 0);
        Due.is("needed(1)", s.needed(1), 0);
        Due.is("needed(2)", s.needed(2), 0);
        Due.is("least()", s.least(), 3);
        SmallWorlds t = Due.page("x = y", "xy = y", "xy = x");
        Due.is("least(), told the other way about", t.least(), 1);
    }

    private static void leastChangesNothing() {
        SmallWorlds s = Due.page("xy = x", "yx = y");
        Due.is("least()", s.least(), 1);
        Due.is("count(1)", s.count(1), 2);
        Due.is("least(), again", s.least(), 1);
        Due.is("unlaw()", s.unlaw(), 1);
    }

    // ---- even

    private static void evenAtTheEnds() {
        SmallWorlds s = new SmallWorlds();
        Due.is("even(), no laws", s.even(), 1);
        s.law(0, 1);
        Due.is("even(), x = y", s.even(), 1);
    }

    private static void evenButForTheLast() {
        SmallWorlds s = Due.page(LAST_OF_ALL);
        Due.is("even()", s.even(), 0);
        s.law(0, 1);
        Due.is("even(), with x = y", s.even(), 1);
    }

    private static void evenTogether() {
        SmallWorlds s = Due.page("xy = x");
        Due.is("even(), xy = x", s.even(), 0);
        s.unlaw();
        Due.law(s, "x(yx) = x");
        Due.is("even(), x(yx) = x", s.even(), 0);
        Due.law(s, "(xy)x = x");
        Due.is("even(), and (xy)x = x", s.even(), 1);
        s.unlaw();
        Due.is("even(), alone again", s.even(), 0);
    }

    private static void evenByItself() {
        Due.is("even(), xy = yx", Due.page("xy = yx").even(), 1);
        Due.is("even(), xx = x", Due.page("xx = x").even(), 1);
        Due.is("even(), (xy)z = x(yz)", Due.page("(xy)z = x(yz)").even(), 1);
        Due.is("even(), xy = zz", Due.page("xy = zz").even(), 1);
        Due.is("even(), xy = xz", Due.page("xy = xz").even(), 0);
    }

    // ---- keep

    private static void keepUnknown() {
        SmallWorlds s = Due.page("xy = x");
        for (int none : NO_SLOT) {
            Due.is("keep(" + none + ")", s.keep(none), Due.UNKNOWN);
        }
        Due.is("same(0)", s.same(0), 0);
        Due.is("same(1)", s.same(1), 0);
        Due.is("keep(0), the first slot", s.keep(0), 1);
        Due.is("keep(1), the last slot", s.keep(1), 1);
    }

    private static void keepNoneToSix() {
        SmallWorlds s = new SmallWorlds();
        for (int laws = 0; laws <= 6; laws++) {
            Due.is("keep(0)", s.keep(0), laws);
            Due.is("keep(1)", s.keep(1), laws);
            s.law(0, 0);
        }
    }

    private static void keepAgain() {
        SmallWorlds s = Due.page("xy = x");
        s.keep(0);
        s.unlaw();
        Due.is("same(0), xy = x was kept", s.same(0), 0);
        Due.is("keep(0), no laws", s.keep(0), 0);
        Due.is("same(0)", s.same(0), 1);
        Due.law(s, "xy = x");
        Due.is("same(0), xy = x is gone", s.same(0), 0);
    }

    private static void slotsApart() {
        SmallWorlds s = Due.page("xy = x");
        s.keep(0);
        s.unlaw();
        Due.law(s, "xx = x");
        s.keep(1);
        Due.is("same(0)", s.same(0), 0);
        Due.is("same(1)", s.same(1), 1);
        s.unlaw();
        Due.law(s, "xy = x");
        Due.is("same(0), xy = x", s.same(0), 1);
        Due.is("same(1), xy = x", s.same(1), 0);
    }

    /** The sixth law comes and goes beside what both slots have. */
    private static void slotsBesideSixLaws() {
        SmallWorlds s = Due.page("xx = x", "xy = yx", "x = x", "y = y", "z = z");
        s.keep(0);
        s.keep(1);
        s.law(0, 1);
        Due.is("same(0), six laws", s.same(0), 0);
        Due.is("same(1), six laws", s.same(1), 0);
        Due.is("worlds(2, true), six laws", s.worlds(2, true), 0);
        s.unlaw();
        Due.is("same(0), five laws", s.same(0), 1);
        Due.is("same(1), five laws", s.same(1), 1);
        s.law(0, 1);
        Due.is("keep(1), six laws", s.keep(1), 6);
        Due.is("same(1), kept", s.same(1), 1);
        Due.is("same(0), kept by the other one", s.same(0), 0);
        Due.is("least()", s.least(), 32);
    }

    private static void keptPageStays() {
        SmallWorlds s = Due.page("xy = yx", "xx = x");
        s.keep(1);
        s.unlaw();
        s.unlaw();
        s.law(0, 1);
        s.law(1, 2);
        Due.is("same(1), other laws by these numbers", s.same(1), 0);
        s.unlaw();
        s.unlaw();
        Due.is("same(1), no laws", s.same(1), 0);
        Due.law(s, "xx = x");
        Due.law(s, "yx = xy");
        Due.is("same(1), the laws again, turned about", s.same(1), 1);
    }

    // ---- same

    private static void sameUnknown() {
        SmallWorlds s = new SmallWorlds();
        for (int none : NO_SLOT) {
            Due.is("same(" + none + ")", s.same(none), Due.UNKNOWN);
        }
    }

    private static void sameAtFirst() {
        SmallWorlds s = new SmallWorlds();
        Due.is("same(0)", s.same(0), 1);
        Due.is("same(1)", s.same(1), 1);
        s.law(0, 0);
        Due.is("same(0), x = x", s.same(0), 1);
        Due.is("same(1), x = x", s.same(1), 1);
        s.law(0, 1);
        Due.is("same(0), x = y", s.same(0), 0);
        Due.is("same(1), x = y", s.same(1), 0);
    }

    private static void sameByOtherLaws() {
        SmallWorlds s = Due.page("xy = x", "xy = y");
        s.keep(0);
        s.unlaw();
        s.unlaw();
        s.law(1, 2);
        Due.is("same(0), y = z", s.same(0), 1);
        s.law(0, 0);
        s.law(0, 2);
        Due.is("same(0), y = z, x = x, x = z", s.same(0), 1);
    }

    private static void notTheSame() {
        SmallWorlds s = Due.page("xy = yx");
        s.keep(0);
        Due.law(s, "xx = x");
        Due.is("same(0), fewer worlds", s.same(0), 0);
        s.keep(1);
        s.unlaw();
        Due.is("same(1), more worlds", s.same(1), 0);
        Due.is("same(0), just these", s.same(0), 1);
    }

    private static void sameTurnedAbout() {
        SmallWorlds s = Due.page("x(yx) = x");
        s.keep(0);
        s.unlaw();
        Due.law(s, "(xy)x = x");
        Due.is("same(0)", s.same(0), 2);
        s.keep(1);
        s.unlaw();
        Due.law(s, "x(yx) = x");
        Due.is("same(1)", s.same(1), 2);
        Due.is("same(0), itself", s.same(0), 1);
        Due.law(s, "(xy)x = x");
        Due.is("same(0), both laws", s.same(0), 0);
        Due.is("same(1), both laws", s.same(1), 0);
    }

    /** An even page is itself turned about, too. */
    private static void sameBeforeTurned() {
        SmallWorlds s = Due.page("xy = yx");
        s.keep(0);
        Due.is("even()", s.even(), 1);
        Due.is("same(0)", s.same(0), 1);
    }

    private static void sameButForTheLast() {
        SmallWorlds s = Due.page(LAST_OF_ALL);
        s.keep(0);
        s.law(0, 1);
        Due.is("same(0), with x = y", s.same(0), 0);
        s.keep(1);
        s.unlaw();
        Due.is("same(1), without x = y", s.same(1), 0);
        Due.is("same(0)", s.same(0), 1);
    }

    private static void sameTheLastTurned() {
        SmallWorlds s = Due.page(LAST_OF_ALL);
        s.keep(0);
        s.unlaw();
        s.unlaw();
        for (String law : LAST_TURNED_ABOUT) {
            Due.law(s, law);
        }
        Due.is("same(0)", s.same(0), 2);
        Due.is("worlds(3, true)", s.worlds(3, true), 1);
        s.law(0, 1);
        Due.is("same(0), with x = y", s.same(0), 0);
    }
}
