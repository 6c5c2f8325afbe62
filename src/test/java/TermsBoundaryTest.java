/** The edges of promises 1 to 12, and of ==== 1: terms, laws, worlds, THE LIST. */
public final class TermsBoundaryTest {
    private static final int[] NO_TERM_OF_FIVE = {-1, 5, 19, 20, Due.LOW, Due.HIGH, Due.NONE};
    private static final int[] NO_SIZE = {0, 4, -1, Due.LOW, Due.HIGH};

    public static void main(String[] args) {
        Due.test(1, "Three letters", TermsBoundaryTest::threeLetters);
        Due.test(1, "no LAWS", TermsBoundaryTest::noLaws);
        Due.test(1, "a new object has nothing of another one", TermsBoundaryTest::nothingOfAnother);
        Due.test(2, "20 in all at most", TermsBoundaryTest::twentyTerms);
        Due.test(2, "that which it has, if it was told", TermsBoundaryTest::toldAlready);
        Due.test(2, "that which it has: full, too", TermsBoundaryTest::toldAlreadyAndFull);
        Due.test(2, "a with b is not b with a", TermsBoundaryTest::putTurnedAbout);
        Due.test(2, "UNKNOWN: a", TermsBoundaryTest::putUnknownFirst);
        Due.test(2, "UNKNOWN: b", TermsBoundaryTest::putUnknownSecond);
        Due.test(2, "TERMS of lesser number", TermsBoundaryTest::putOfItself);
        Due.test(2, "UNKNOWN; FULL", TermsBoundaryTest::putUnknownBeforeFull);
        Due.test(3, "NONE: a letter", TermsBoundaryTest::partsOfLetters);
        Due.test(3, "the first part, the second part", TermsBoundaryTest::partsOfTerms);
        Due.test(3, "UNKNOWN", TermsBoundaryTest::partUnknown);
        Due.test(4, "6 at most", TermsBoundaryTest::sixLaws);
        Due.test(4, "a law that was told is a law once more", TermsBoundaryTest::lawTwice);
        Due.test(4, "UNKNOWN", TermsBoundaryTest::lawUnknown);
        Due.test(4, "UNKNOWN; FULL", TermsBoundaryTest::lawUnknownBeforeFull);
        Due.test(5, "STATE: there is none", TermsBoundaryTest::unlawNone);
        Due.test(5, "how many are left, from six to none", TermsBoundaryTest::unlawSix);
        Due.test(5, "the last LAW", TermsBoundaryTest::unlawTheLast);
        Due.test(6, "OUTSIDE", TermsBoundaryTest::worldsOutside);
        Due.test(6, "no laws: all of them", TermsBoundaryTest::worldsAll);
        Due.test(6, "laws that none but the point keeps", TermsBoundaryTest::worldsNone);
        Due.test(7, "NONE: behind the last one", TermsBoundaryTest::numberBehindTheLast);
        Due.test(7, "NONE: ahead of the first one", TermsBoundaryTest::numberBelowNought);
        Due.test(7, "NONE: there are none", TermsBoundaryTest::numberOfNone);
        Due.test(7, "LISTED ones beyond THE LIST", TermsBoundaryTest::numberBeyondTheList);
        Due.test(7, "OUTSIDE: size", TermsBoundaryTest::numberOutside);
        Due.test(8, "OUTSIDE: size", TermsBoundaryTest::keepsOutsideSize);
        Due.test(8, "OUTSIDE: number", TermsBoundaryTest::keepsOutsideNumber);
        Due.test(8, "no laws: each one", TermsBoundaryTest::keepsNoLaws);
        Due.test(8, "for all THINGS as x, y, z", TermsBoundaryTest::keepsForAllThings);
        Due.test(8, "for all THINGS, whichever number the term has", TermsBoundaryTest::keepsByLaterTerms);
        Due.test(8, "all LAWS, the first and the sixth", TermsBoundaryTest::keepsAllLaws);
        Due.test(8, "the first cell weighs most", TermsBoundaryTest::firstCellWeighsMost);
        Due.test(9, "OUTSIDE", TermsBoundaryTest::breaksOutside);
        Due.test(9, "NONE", TermsBoundaryTest::breaksNone);
        Due.test(9, "the first LAW", TermsBoundaryTest::breaksTheFirst);
        Due.test(10, "OUTSIDE", TermsBoundaryTest::plainOutside);
        Due.test(10, "the ends of each size", TermsBoundaryTest::plainOfTheEnds);
        Due.test(10, "THINGS renamed one for one", TermsBoundaryTest::plainByAllNames);
        Due.test(10, "of it: whatever the laws are", TermsBoundaryTest::plainBesideLaws);
        Due.test(11, "OUTSIDE", TermsBoundaryTest::listOutside);
        Due.test(11, "never empty: the point keeps all", TermsBoundaryTest::listOfThePoint);
        Due.test(11, "the first 40: of 39", TermsBoundaryTest::listOfThirtyNine);
        Due.test(11, "the first 40: of 40", TermsBoundaryTest::listOfForty);
        Due.test(11, "the first 40: of 41", TermsBoundaryTest::listOfFortyOne);
        Due.test(11, "the first 40: of all", TermsBoundaryTest::listOfAll);
        Due.test(11, "THE LIST goes with the laws", TermsBoundaryTest::listGoesWithTheLaws);
        Due.test(12, "UNKNOWN", TermsBoundaryTest::worldUnknown);
        Due.test(12, "OUTSIDE", TermsBoundaryTest::worldOutside);
        Due.test(12, "UNKNOWN; OUTSIDE", TermsBoundaryTest::worldUnknownBeforeOutside);
        Due.test(12, "those of SIZE 1, then 2, then 3, by NUMBER", TermsBoundaryTest::worldsInOrder);
        Due.test(12, "the last of all worlds", TermsBoundaryTest::theLastOfAll);
        Due.end();
    }

    // ---- a new object

    private static void threeLetters() {
        SmallWorlds s = new SmallWorlds();
        Due.is("count(0)", s.count(0), 3);
        Due.is("part(2, false)", s.part(2, false), Due.NONE);
        Due.is("part(3, false)", s.part(3, false), Due.UNKNOWN);
        Due.is("put(2, 2), the first number behind the letters", s.put(2, 2), 3);
    }

    private static void noLaws() {
        SmallWorlds s = new SmallWorlds();
        Due.is("count(1)", s.count(1), 0);
        Due.is("needed(0)", s.needed(0), Due.UNKNOWN);
        Due.is("unlaw()", s.unlaw(), Due.STATE);
        Due.is("law(0, 1), the first number", s.law(0, 1), 0);
    }

    private static void nothingOfAnother() {
        SmallWorlds other = Due.page("xy = x");
        other.make(0, 0, 1);
        other.keep(0);
        other.weigh(0, 7);
        SmallWorlds s = new SmallWorlds();
        Due.is("count(0)", s.count(0), 3);
        Due.is("count(1)", s.count(1), 0);
        Due.is("count(2)", s.count(2), 0);
        Due.is("same(0)", s.same(0), 1);
        Due.is("weigh(0, 2)", s.weigh(0, 2), 1);
        Due.is("worlds(2, false)", s.worlds(2, false), 16);
        Due.is("worlds(2, false) of the other one", other.worlds(2, false), 1);
        Due.is("weigh(0, 1) of the other one", other.weigh(0, 1), 7);
    }

    // ---- put, part

    private static void twentyTerms() {
        SmallWorlds s = new SmallWorlds();
        for (int term = 3; term < 20; term++) {
            Due.is("put(term - 1, 0)", s.put(term - 1, 0), term);
        }
        Due.is("put(19, 0), the 21st", s.put(19, 0), Due.FULL);
        Due.is("put(0, 0), never told and full", s.put(0, 0), Due.FULL);
        Due.is("count(0)", s.count(0), 20);
        Due.is("part(20, false)", s.part(20, false), Due.UNKNOWN);
    }

    private static void toldAlready() {
        SmallWorlds s = new SmallWorlds();
        s.put(0, 1);
        s.put(1, 2);
        s.put(3, 4);
        Due.is("put(0, 1), the first told", s.put(0, 1), 3);
        Due.is("put(3, 4), the last told", s.put(3, 4), 5);
        Due.is("count(0)", s.count(0), 6);
    }

    private static void toldAlreadyAndFull() {
        SmallWorlds s = new SmallWorlds();
        Due.fillTerms(s);
        Due.is("put(0, 0), the first told", s.put(0, 0), 3);
        Due.is("put(18, 0), the last told", s.put(18, 0), 19);
        Due.is("put(0, 1), not told", s.put(0, 1), Due.FULL);
    }

    private static void putTurnedAbout() {
        SmallWorlds s = new SmallWorlds();
        s.put(0, 1);
        Due.is("put(1, 0)", s.put(1, 0), 4);
        Due.is("put(0, 0)", s.put(0, 0), 5);
        Due.is("put(1, 1)", s.put(1, 1), 6);
    }

    private static void putUnknownFirst() {
        SmallWorlds s = new SmallWorlds();
        s.put(0, 1);
        s.put(1, 0);
        for (int none : NO_TERM_OF_FIVE) {
            Due.is("put(" + none + ", 4)", s.put(none, 4), Due.UNKNOWN);
        }
        Due.is("put(4, 0), the last that is known", s.put(4, 0), 5);
    }

    private static void putUnknownSecond() {
        SmallWorlds s = new SmallWorlds();
        s.put(0, 1);
        s.put(1, 0);
        for (int none : NO_TERM_OF_FIVE) {
            Due.is("put(4, " + none + ")", s.put(4, none), Due.UNKNOWN);
        }
        Due.is("put(0, 4), the last that is known", s.put(0, 4), 5);
    }

    private static void putOfItself() {
        SmallWorlds s = new SmallWorlds();
        Due.is("put(3, 3), the number it would have", s.put(3, 3), Due.UNKNOWN);
        Due.is("put(2, 3)", s.put(2, 3), Due.UNKNOWN);
        Due.is("count(0)", s.count(0), 3);
    }

    private static void putUnknownBeforeFull() {
        SmallWorlds s = new SmallWorlds();
        Due.fillTerms(s);
        Due.is("put(20, 0)", s.put(20, 0), Due.UNKNOWN);
        Due.is("put(0, 20)", s.put(0, 20), Due.UNKNOWN);
        Due.is("put(-1, -1)", s.put(-1, -1), Due.UNKNOWN);
    }

    private static void partsOfLetters() {
        SmallWorlds s = new SmallWorlds();
        for (int letter = 0; letter < 3; letter++) {
            Due.is("part(letter, false)", s.part(letter, false), Due.NONE);
            Due.is("part(letter, true)", s.part(letter, true), Due.NONE);
        }
    }

    private static void partsOfTerms() {
        SmallWorlds s = new SmallWorlds();
        Due.is("put(2, 0)", s.put(2, 0), 3);
        Due.is("part(3, false), right behind the letters", s.part(3, false), 2);
        Due.is("part(3, true)", s.part(3, true), 0);
        Due.fillTerms(s);
        Due.is("part(19, false), the last of 20", s.part(19, false), 18);
        Due.is("part(19, true)", s.part(19, true), 0);
    }

    private static void partUnknown() {
        SmallWorlds s = new SmallWorlds();
        s.put(0, 1);
        s.put(1, 0);
        for (int none : NO_TERM_OF_FIVE) {
            Due.is("part(" + none + ", false)", s.part(none, false), Due.UNKNOWN);
            Due.is("part(" + none + ", true)", s.part(none, true), Due.UNKNOWN);
        }
    }

    // ---- law, unlaw

    private static void sixLaws() {
        SmallWorlds s = new SmallWorlds();
        for (int law = 0; law < 6; law++) {
            Due.is("law(law % 3, 2)", s.law(law % 3, 2), law);
        }
        Due.is("law(0, 0), the seventh", s.law(0, 0), Due.FULL);
        Due.is("count(1)", s.count(1), 6);
        s.unlaw();
        Due.is("law(0, 0), with room again", s.law(0, 0), 5);
        Due.is("law(0, 0), full again", s.law(0, 0), Due.FULL);
    }

    private static void lawTwice() {
        SmallWorlds s = new SmallWorlds();
        Due.is("law(0, 1)", s.law(0, 1), 0);
        Due.is("law(0, 1), the same", s.law(0, 1), 1);
        Due.is("law(1, 0), turned about", s.law(1, 0), 2);
        Due.is("law(2, 2), of one term", s.law(2, 2), 3);
        Due.is("count(1)", s.count(1), 4);
    }

    private static void lawUnknown() {
        SmallWorlds s = new SmallWorlds();
        s.put(0, 1);
        s.put(1, 0);
        for (int none : NO_TERM_OF_FIVE) {
            Due.is("law(" + none + ", 4)", s.law(none, 4), Due.UNKNOWN);
            Due.is("law(4, " + none + ")", s.law(4, none), Due.UNKNOWN);
        }
        Due.is("count(1)", s.count(1), 0);
        Due.is("law(4, 4), the last term", s.law(4, 4), 0);
    }

    private static void lawUnknownBeforeFull() {
        SmallWorlds s = new SmallWorlds();
        Due.fillLaws(s);
        Due.is("law(3, 0)", s.law(3, 0), Due.UNKNOWN);
        Due.is("law(0, 3)", s.law(0, 3), Due.UNKNOWN);
        Due.is("law(0, -1)", s.law(0, -1), Due.UNKNOWN);
        Due.is("law(2, 2)", s.law(2, 2), Due.FULL);
    }

    private static void unlawNone() {
        SmallWorlds s = new SmallWorlds();
        Due.is("unlaw(), new", s.unlaw(), Due.STATE);
        s.law(0, 1);
        Due.is("unlaw(), the one", s.unlaw(), 0);
        Due.is("unlaw(), none left", s.unlaw(), Due.STATE);
        Due.is("unlaw(), still", s.unlaw(), Due.STATE);
        Due.is("count(1)", s.count(1), 0);
    }

    private static void unlawSix() {
        SmallWorlds s = new SmallWorlds();
        Due.fillLaws(s);
        for (int left = 5; left >= 0; left--) {
            Due.is("unlaw()", s.unlaw(), left);
            Due.is("count(1)", s.count(1), left);
        }
    }

    private static void unlawTheLast() {
        SmallWorlds s = Due.page("xy = x", "xy = y");
        Due.is("worlds(2, false), both", s.worlds(2, false), 0);
        s.unlaw();
        Due.is("keeps(2, 0011), xy = x", s.keeps(2, Due.number("00 11")), 1);
        Due.is("keeps(2, 0101), xy = y", s.keeps(2, Due.number("01 01")), 0);
        Due.is("number(2, 0)", s.number(2, 0), Due.number("00 11"));
        Due.law(s, "xx = x");
        Due.is("worlds(2, false), another law with the same number", s.worlds(2, false), 1);
    }

    // ---- worlds, number

    private static void worldsOutside() {
        SmallWorlds s = new SmallWorlds();
        for (int none : NO_SIZE) {
            Due.is("worlds(" + none + ", false)", s.worlds(none, false), Due.OUTSIDE);
            Due.is("worlds(" + none + ", true)", s.worlds(none, true), Due.OUTSIDE);
        }
    }

    private static void worldsAll() {
        SmallWorlds s = new SmallWorlds();
        int[] all = {1, 16, 19683};
        int[] once = {1, 10, 3330};
        for (int size = 1; size <= 3; size++) {
            Due.is("worlds(size, false)", s.worlds(size, false), all[size - 1]);
            Due.is("worlds(size, true)", s.worlds(size, true), once[size - 1]);
        }
    }

    private static void worldsNone() {
        SmallWorlds s = Due.page("x = y");
        Due.is("worlds(1, false)", s.worlds(1, false), 1);
        Due.is("worlds(1, true)", s.worlds(1, true), 1);
        for (int size = 2; size <= 3; size++) {
            Due.is("worlds(size, false)", s.worlds(size, false), 0);
            Due.is("worlds(size, true)", s.worlds(size, true), 0);
        }
    }

    private static void numberBehindTheLast() {
        SmallWorlds s = new SmallWorlds();
        Due.is("number(1, 0)", s.number(1, 0), 0);
        Due.is("number(1, 1)", s.number(1, 1), Due.NONE);
        Due.is("number(2, 9)", s.number(2, 9), Due.number("11 00"));
        Due.is("number(2, 10)", s.number(2, 10), Due.NONE);
        Due.is("number(3, 3329)", s.number(3, 3329), Due.number("122 020 110"));
        Due.is("number(3, 3330)", s.number(3, 3330), Due.NONE);
        Due.is("number(3, HIGH)", s.number(3, Due.HIGH), Due.NONE);
    }

    private static void numberBelowNought() {
        SmallWorlds s = new SmallWorlds();
        for (int size = 1; size <= 3; size++) {
            Due.is("number(size, -1)", s.number(size, -1), Due.NONE);
            Due.is("number(size, LOW)", s.number(size, Due.LOW), Due.NONE);
        }
    }

    private static void numberOfNone() {
        SmallWorlds s = Due.page("x = y");
        Due.is("number(1, 0)", s.number(1, 0), 0);
        Due.is("number(2, 0)", s.number(2, 0), Due.NONE);
        Due.is("number(3, 0)", s.number(3, 0), Due.NONE);
    }

    private static void numberBeyondTheList() {
        SmallWorlds s = new SmallWorlds();
        Due.is("number(3, 28), the last of THE LIST", s.number(3, 28), Due.number("000 001 002"));
        Due.is("number(3, 29), the first beyond it", s.number(3, 29), Due.number("000 001 010"));
    }

    private static void numberOutside() {
        SmallWorlds s = new SmallWorlds();
        for (int none : NO_SIZE) {
            Due.is("number(" + none + ", 0)", s.number(none, 0), Due.OUTSIDE);
            Due.is("number(" + none + ", -1)", s.number(none, -1), Due.OUTSIDE);
            Due.is("number(" + none + ", HIGH)", s.number(none, Due.HIGH), Due.OUTSIDE);
        }
    }

    // ---- keeps, breaks

    private static void keepsOutsideSize() {
        SmallWorlds s = new SmallWorlds();
        for (int none : NO_SIZE) {
            Due.is("keeps(" + none + ", 0)", s.keeps(none, 0), Due.OUTSIDE);
            Due.is("keeps(" + none + ", -1)", s.keeps(none, -1), Due.OUTSIDE);
        }
    }

    private static void keepsOutsideNumber() {
        SmallWorlds s = new SmallWorlds();
        int[] all = {1, 16, 19683};
        for (int size = 1; size <= 3; size++) {
            Due.is("keeps(size, 0)", s.keeps(size, 0), 1);
            Due.is("keeps(size, -1)", s.keeps(size, -1), Due.OUTSIDE);
            Due.is("keeps(size, the last)", s.keeps(size, all[size - 1] - 1), 1);
            Due.is("keeps(size, behind the last)", s.keeps(size, all[size - 1]), Due.OUTSIDE);
            Due.is("keeps(size, LOW)", s.keeps(size, Due.LOW), Due.OUTSIDE);
            Due.is("keeps(size, HIGH)", s.keeps(size, Due.HIGH), Due.OUTSIDE);
        }
    }

    private static void keepsNoLaws() {
        SmallWorlds s = new SmallWorlds();
        for (int number = 0; number < 16; number++) {
            Due.is("keeps(2, number)", s.keeps(2, number), 1);
        }
        Due.is("keeps(3, 12345)", s.keeps(3, 12345), 1);
    }

    /** The square of each thing in turn is not itself, be the letter x, y or z. */
    private static void keepsForAllThings() {
        for (String law : new String[] {"xx = x", "yy = y", "zz = z"}) {
            SmallWorlds s = Due.page(law);
            Due.is("keeps(3, 000 010 002)", s.keeps(3, Due.number("000 010 002")), 1);
            Due.is("keeps(3, 100 010 002)", s.keeps(3, Due.number("100 010 002")), 0);
            Due.is("keeps(3, 000 000 002)", s.keeps(3, Due.number("000 000 002")), 0);
            Due.is("keeps(3, 000 010 000)", s.keeps(3, Due.number("000 010 000")), 0);
        }
    }

    /** As above, with other terms told ahead of the law's: its own are not the first ones. */
    private static void keepsByLaterTerms() {
        String[] ahead = {"xx", "yy", "zz"};
        for (int letter = 0; letter < 3; letter++) {
            SmallWorlds s = new SmallWorlds();
            for (int other = 1; other <= 3; other++) {
                Due.term(s, ahead[(letter + other) % 3]);
            }
            Due.law(s, ahead[letter] + " = " + "xyz".charAt(letter));
            Due.is("keeps(3, 000 010 002)", s.keeps(3, Due.number("000 010 002")), 1);
            Due.is("keeps(3, 000 010 000)", s.keeps(3, Due.number("000 010 000")), 0);
            Due.is("keeps(3, 000 000 002)", s.keeps(3, Due.number("000 000 002")), 0);
            Due.is("worlds(3, true)", s.worlds(3, true), 138);
            Due.is("worlds(3, false)", s.worlds(3, false), 729);
        }
    }

    private static void keepsAllLaws() {
        SmallWorlds s = Due.page("xy = x", "x = x", "y = y", "z = z", "xx = xx");
        Due.is("keeps(2, 0011), five laws", s.keeps(2, Due.number("00 11")), 1);
        Due.is("keeps(2, 0101), not the first", s.keeps(2, Due.number("01 01")), 0);
        Due.law(s, "x = y");
        Due.is("keeps(2, 0011), not the sixth", s.keeps(2, Due.number("00 11")), 0);
        Due.is("keeps(1, 0)", s.keeps(1, 0), 1);
    }

    /** Just these two have x with y as x, and as y: the lines are of the first thing each. */
    private static void firstCellWeighsMost() {
        SmallWorlds s = Due.page("xy = x");
        Due.is("keeps(2, 3)", s.keeps(2, 3), 1);
        Due.is("keeps(2, 5)", s.keeps(2, 5), 0);
        Due.is("keeps(2, 12)", s.keeps(2, 12), 0);
        Due.is("keeps(3, 377), 000 111 222", s.keeps(3, 377), 1);
        SmallWorlds t = Due.page("xy = y");
        Due.is("keeps(2, 5), xy = y", t.keeps(2, 5), 1);
        Due.is("keeps(2, 3), xy = y", t.keeps(2, 3), 0);
        Due.is("keeps(2, 10), xy = y", t.keeps(2, 10), 0);
        Due.is("keeps(3, 3785), 012 012 012", t.keeps(3, 3785), 1);
    }

    private static void breaksOutside() {
        SmallWorlds s = Due.page("x = y");
        for (int none : NO_SIZE) {
            Due.is("breaks(" + none + ", 0)", s.breaks(none, 0), Due.OUTSIDE);
        }
        int[] all = {1, 16, 19683};
        for (int size = 1; size <= 3; size++) {
            Due.is("breaks(size, -1)", s.breaks(size, -1), Due.OUTSIDE);
            Due.is("breaks(size, the last)", s.breaks(size, all[size - 1] - 1), size == 1 ? Due.NONE : 0);
            Due.is("breaks(size, behind the last)", s.breaks(size, all[size - 1]), Due.OUTSIDE);
            Due.is("breaks(size, HIGH)", s.breaks(size, Due.HIGH), Due.OUTSIDE);
            Due.is("breaks(size, LOW)", s.breaks(size, Due.LOW), Due.OUTSIDE);
        }
    }

    private static void breaksNone() {
        SmallWorlds s = new SmallWorlds();
        Due.is("breaks(3, 12345), no laws", s.breaks(3, 12345), Due.NONE);
        Due.law(s, "xy = x");
        Due.is("breaks(2, 0011)", s.breaks(2, Due.number("00 11")), Due.NONE);
        Due.is("breaks(2, 0101)", s.breaks(2, Due.number("01 01")), 0);
        s.unlaw();
        Due.is("breaks(2, 0101), no laws again", s.breaks(2, Due.number("01 01")), Due.NONE);
    }

    private static void breaksTheFirst() {
        SmallWorlds s = Due.page("x = x", "xx = x", "xy = yx", "y = y", "z = z", "x = y");
        Due.is("breaks(2, 0000), 1 and 5", s.breaks(2, 0), 1);
        Due.is("breaks(2, 0011), 2 and 5", s.breaks(2, Due.number("00 11")), 2);
        Due.is("breaks(2, 1000), 1, 5", s.breaks(2, Due.number("10 00")), 1);
        Due.is("breaks(2, 0001), the sixth alone", s.breaks(2, Due.number("00 01")), 5);
        Due.is("breaks(1, 0)", s.breaks(1, 0), Due.NONE);
    }

    // ---- plain

    private static void plainOutside() {
        SmallWorlds s = new SmallWorlds();
        for (int none : NO_SIZE) {
            Due.is("plain(" + none + ", 0)", s.plain(none, 0), Due.OUTSIDE);
        }
        int[] all = {1, 16, 19683};
        for (int size = 1; size <= 3; size++) {
            Due.is("plain(size, -1)", s.plain(size, -1), Due.OUTSIDE);
            Due.is("plain(size, behind the last)", s.plain(size, all[size - 1]), Due.OUTSIDE);
            Due.is("plain(size, LOW)", s.plain(size, Due.LOW), Due.OUTSIDE);
            Due.is("plain(size, HIGH)", s.plain(size, Due.HIGH), Due.OUTSIDE);
        }
    }

    /** The last of each size has one thing for all, as the first one has. */
    private static void plainOfTheEnds() {
        SmallWorlds s = new SmallWorlds();
        Due.is("plain(1, 0)", s.plain(1, 0), 0);
        Due.is("plain(2, 0)", s.plain(2, 0), 0);
        Due.is("plain(2, 15)", s.plain(2, 15), 0);
        Due.is("plain(3, 0)", s.plain(3, 0), 0);
        Due.is("plain(3, 19682)", s.plain(3, 19682), 0);
        Due.is("plain(3, 12567), the last that is least", s.plain(3, 12567), 12567);
        Due.is("plain(3, 12568)", s.plain(3, 12568) < 12568 ? 1 : 0, 1);
    }

    private static int renamed(String table, int[] name) {
        String cells = table.replace(" ", "");
        int[] made = new int[9];
        for (int x = 0; x < 3; x++) {
            for (int y = 0; y < 3; y++) {
                made[name[x] * 3 + name[y]] = name[cells.charAt(x * 3 + y) - '0'];
            }
        }
        int number = 0;
        for (int cell : made) {
            number = number * 3 + cell;
        }
        return number;
    }

    private static void plainByAllNames() {
        int[][] names = {{0, 1, 2}, {0, 2, 1}, {1, 0, 2}, {1, 2, 0}, {2, 0, 1}, {2, 1, 0}};
        SmallWorlds s = new SmallWorlds();
        for (String table : new String[] {"012 112 222", "120 002 211", "111 222 000", "122 020 110"}) {
            int least = Due.HIGH;
            for (int[] name : names) {
                least = Math.min(least, renamed(table, name));
            }
            for (int[] name : names) {
                Due.is("plain(3, " + table + " renamed)", s.plain(3, renamed(table, name)), least);
            }
        }
        int[] two = {0, 1, 2, 3, 4, 5, 6, 1, 8, 6, 10, 2, 12, 4, 8, 0};
        for (int number = 0; number < 16; number++) {
            Due.is("plain(2, " + number + ")", s.plain(2, number), two[number]);
        }
    }

    private static void plainBesideLaws() {
        SmallWorlds s = Due.page("x = y");
        Due.is("plain(2, 0111)", s.plain(2, Due.number("01 11")), 1);
        Due.is("plain(2, 0001)", s.plain(2, Due.number("00 01")), 1);
    }

    // ---- list, world

    private static void listOutside() {
        SmallWorlds s = new SmallWorlds();
        for (int none : new int[] {-1, 2, Due.LOW, Due.HIGH}) {
            Due.is("list(" + none + ")", s.list(none), Due.OUTSIDE);
        }
    }

    private static void listOfThePoint() {
        SmallWorlds s = Due.page("x = y", "xy = z", "xx = y", "x = z", "y = z", "yz = x");
        Due.is("list(0)", s.list(0), 1);
        Due.is("list(1)", s.list(1), 1);
        Due.is("world(0, 0)", s.world(0, 0), 1);
        Due.is("world(0, 1)", s.world(0, 1), 0);
        Due.is("world(1, 0)", s.world(1, 0), Due.UNKNOWN);
    }

    private static int listed(SmallWorlds s) {
        return s.worlds(1, true) + s.worlds(2, true) + s.worlds(3, true);
    }

    private static int pairsOfAll(SmallWorlds s) {
        return 1 + 4 * s.worlds(2, true) + 9 * s.worlds(3, true);
    }

    private static void listOfThirtyNine() {
        SmallWorlds s = Due.page("x(xy) = (xx)x");
        Due.is("worlds of all sizes", listed(s), 39);
        Due.is("list(0)", s.list(0), 39);
        Due.is("list(1)", s.list(1), pairsOfAll(s));
        Due.is("world(38, 1)", s.world(38, 1), s.number(3, s.worlds(3, true) - 1));
        Due.is("world(39, 0)", s.world(39, 0), Due.UNKNOWN);
    }

    private static void listOfForty() {
        SmallWorlds s = Due.page("(xy)x = x(xx)");
        Due.is("worlds of all sizes", listed(s), 40);
        Due.is("list(0)", s.list(0), 40);
        Due.is("list(1)", s.list(1), pairsOfAll(s));
        Due.is("world(39, 1)", s.world(39, 1), s.number(3, s.worlds(3, true) - 1));
        Due.is("world(40, 0)", s.world(40, 0), Due.UNKNOWN);
    }

    private static void listOfFortyOne() {
        SmallWorlds s = Due.page("x(xy) = x(xx)", "(xx)x = xx");
        Due.is("worlds of all sizes", listed(s), 41);
        Due.is("list(0)", s.list(0), 40);
        Due.is("list(1), but for one of three things", s.list(1), pairsOfAll(s) - 9);
        Due.is("world(39, 1)", s.world(39, 1), s.number(3, s.worlds(3, true) - 2));
        Due.is("world(40, 0)", s.world(40, 0), Due.UNKNOWN);
    }

    private static void listOfAll() {
        SmallWorlds s = new SmallWorlds();
        Due.is("list(0)", s.list(0), 40);
        Due.is("list(1)", s.list(1), 1 + 10 * 4 + 29 * 9);
        Due.is("world(39, 1)", s.world(39, 1), Due.number("000 001 002"));
        Due.is("world(40, 0)", s.world(40, 0), Due.UNKNOWN);
    }

    private static void listGoesWithTheLaws() {
        SmallWorlds s = new SmallWorlds();
        Due.is("list(0), no laws", s.list(0), 40);
        Due.is("list(1), no laws", s.list(1), 302);
        s.law(0, 1);
        Due.is("list(0), x = y", s.list(0), 1);
        Due.is("list(1), x = y", s.list(1), 1);
        Due.is("world(1, 0), x = y", s.world(1, 0), Due.UNKNOWN);
        s.unlaw();
        Due.is("list(0), no laws again", s.list(0), 40);
        Due.is("list(1), no laws again", s.list(1), 302);
        Due.is("world(39, 0), no laws again", s.world(39, 0), 3);
    }

    private static void worldUnknown() {
        SmallWorlds s = Due.page("xy = x");
        for (int none : new int[] {-1, 3, 39, 40, Due.LOW, Due.HIGH}) {
            Due.is("world(" + none + ", 0)", s.world(none, 0), Due.UNKNOWN);
            Due.is("world(" + none + ", 1)", s.world(none, 1), Due.UNKNOWN);
        }
    }

    private static void worldOutside() {
        SmallWorlds s = Due.page("xy = x");
        for (int none : new int[] {-1, 2, Due.LOW, Due.HIGH}) {
            Due.is("world(0, " + none + ")", s.world(0, none), Due.OUTSIDE);
            Due.is("world(2, " + none + ")", s.world(2, none), Due.OUTSIDE);
        }
    }

    private static void worldUnknownBeforeOutside() {
        SmallWorlds s = Due.page("xy = x");
        Due.is("world(3, 2)", s.world(3, 2), Due.UNKNOWN);
        Due.is("world(-1, -1)", s.world(-1, -1), Due.UNKNOWN);
    }

    private static void worldsInOrder() {
        SmallWorlds s = new SmallWorlds();
        int[] twos = {0, 1, 2, 3, 4, 5, 6, 8, 10, 12};
        Due.is("world(0, 0)", s.world(0, 0), 1);
        Due.is("world(0, 1)", s.world(0, 1), 0);
        for (int i = 0; i < 10; i++) {
            Due.is("world(1 + i, 0)", s.world(1 + i, 0), 2);
            Due.is("world(1 + i, 1)", s.world(1 + i, 1), twos[i]);
        }
        int before = -1;
        for (int world = 11; world < 40; world++) {
            Due.is("world(world, 0)", s.world(world, 0), 3);
            Due.is("world(world, 1) is greater", s.world(world, 1) > before ? 1 : 0, 1);
            before = s.world(world, 1);
        }
    }

    /** Of these laws' worlds one alone has more than one thing; no LISTED one has a greater number. */
    private static void theLastOfAll() {
        SmallWorlds s = Due.page("(xy)(x(xy)) = x", "(yx)x = (xy)y");
        Due.is("list(0)", s.list(0), 2);
        Due.is("list(1)", s.list(1), 10);
        Due.is("world(1, 0)", s.world(1, 0), 3);
        Due.is("world(1, 1)", s.world(1, 1), Due.number("122 020 110"));
        Due.is("worlds(3, false), two that are one by names", s.worlds(3, false), 2);
    }
}
