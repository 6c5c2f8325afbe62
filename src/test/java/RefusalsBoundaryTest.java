import java.util.function.ToIntFunction;

/** REFUSALS: what is refused changes nothing; and the calls up to the last that is promised. */
public final class RefusalsBoundaryTest {
    public static void main(String[] args) {
        refused(2, "put: UNKNOWN", Due.UNKNOWN, some(), s -> s.put(99, 0));
        refused(2, "put: UNKNOWN, the second", Due.UNKNOWN, some(), s -> s.put(0, -1));
        refused(2, "put: FULL", Due.FULL, full(), s -> s.put(1, 2));
        refused(4, "law: UNKNOWN", Due.UNKNOWN, some(), s -> s.law(0, 99));
        refused(4, "law: UNKNOWN, the first", Due.UNKNOWN, some(), s -> s.law(-1, 0));
        refused(4, "law: FULL", Due.FULL, full(), s -> s.law(0, 1));
        refused(5, "unlaw: STATE", Due.STATE, lawless(), s -> s.unlaw());
        refused(13, "make: OUTSIDE", Due.OUTSIDE, some(), s -> s.make(7, 0, 0));
        refused(13, "make: UNKNOWN term", Due.UNKNOWN, some(), s -> s.make(0, 0, 99));
        refused(13, "make: UNKNOWN notion", Due.UNKNOWN, some(), s -> s.make(2, 0, 99));
        refused(13, "make: FULL", Due.FULL, full(), s -> s.make(1, 0, 0));
        refused(21, "weigh: OUTSIDE what", Due.OUTSIDE, some(), s -> s.weigh(3, 5));
        refused(21, "weigh: OUTSIDE v", Due.OUTSIDE, some(), s -> s.weigh(0, 10));
        refused(21, "weigh: OUTSIDE v, below", Due.OUTSIDE, some(), s -> s.weigh(2, -1));
        refused(22, "wake: UNKNOWN", Due.UNKNOWN, some(), s -> s.wake(99, false));
        refused(26, "makeNext: STATE", Due.STATE, asleep(), s -> s.makeNext());
        refused(26, "makeNext: FULL", Due.FULL, full(), s -> s.makeNext());
        refused(30, "keep: UNKNOWN", Due.UNKNOWN, some(), s -> s.keep(2));
        refused(30, "keep: UNKNOWN, below", Due.UNKNOWN, some(), s -> s.keep(-1));
        Due.test(0, "calls that tell change nothing", RefusalsBoundaryTest::tellingChangesNothing);
        Due.test(0, "NONE is -9, and the others", RefusalsBoundaryTest::constants);
        Due.test(0, "at most 512 calls: laws come and go", RefusalsBoundaryTest::lawsForAllCalls);
        Due.test(0, "at most 512 calls: the 512th", RefusalsBoundaryTest::theLastCall);
        Due.end();
    }

    /** The answer is the refusal, and all that can be told is as it was. */
    private static void refused(int promise, String words, int want, SmallWorlds s, ToIntFunction<SmallWorlds> call) {
        Due.test(promise, "What is refused changes nothing: " + words, () -> {
            String before = told(s);
            Due.is("the call", call.applyAsInt(s), want);
            Due.like("what can be told", told(s), before);
            Due.is("the call, again", call.applyAsInt(s), want);
        });
    }

    private static SmallWorlds some() {
        SmallWorlds s = Due.page("xx = x", "xy = yx");
        s.keep(0);
        s.unlaw();
        s.make(0, 4, 0);
        s.make(1, 0, 0);
        s.make(2, 0, 1);
        s.make(0, 0, 1);
        s.wake(1, false);
        s.weigh(0, 5);
        s.weigh(1, 0);
        s.weigh(2, 3);
        return s;
    }

    private static SmallWorlds full() {
        SmallWorlds s = some();
        Due.fillTerms(s);
        Due.fillLaws(s);
        Due.fillNotions(s);
        return s;
    }

    private static SmallWorlds lawless() {
        SmallWorlds s = some();
        s.unlaw();
        return s;
    }

    private static SmallWorlds asleep() {
        SmallWorlds s = some();
        for (int notion = 0; notion < 4; notion++) {
            s.wake(notion, false);
        }
        return s;
    }

    /** Some 150 calls that tell and change nothing. */
    private static String told(SmallWorlds s) {
        StringBuilder all = new StringBuilder();
        for (int what = 0; what <= 4; what++) {
            all.append(s.count(what)).append(' ');
        }
        for (int term = 0; term < s.count(0); term++) {
            all.append(s.part(term, false)).append(',').append(s.part(term, true)).append(',');
            all.append(s.first(term)).append(' ');
        }
        for (int size = 1; size <= 3; size++) {
            all.append("; ").append(s.worlds(size, false)).append(',').append(s.worlds(size, true));
        }
        all.append("; ").append(s.list(0)).append(',').append(s.list(1)).append(',').append(s.world(s.list(0) - 1, 1));
        for (int notion = 0; notion < s.count(2); notion++) {
            all.append("; ").append(s.many(notion)).append(',').append(s.worth(notion, 3)).append(',');
            all.append(s.worth(notion, 1)).append(',').append(s.twin(notion));
        }
        all.append("; ").append(s.best()).append(',').append(s.next()).append(',').append(s.least());
        all.append(',').append(s.even()).append(',').append(s.same(0)).append(',').append(s.same(1));
        all.append(',').append(s.groups()).append(',').append(s.breaks(3, 12345));
        return all.toString();
    }

    private static void tellingChangesNothing() {
        SmallWorlds s = some();
        String before = told(s);
        s.part(0, true);
        s.number(3, 5);
        s.keeps(2, 5);
        s.plain(3, 700);
        s.yes(0, 0, 0, 0);
        s.butFor(0, 1);
        s.look(0, 1, 0);
        s.never(0, 1);
        s.deny(0, 1);
        s.needed(0);
        s.shown(0, 1);
        Due.like("what can be told", told(s), before);
    }

    private static void constants() {
        Due.is("UNKNOWN", SmallWorlds.UNKNOWN, -1);
        Due.is("OUTSIDE", SmallWorlds.OUTSIDE, -2);
        Due.is("STATE", SmallWorlds.STATE, -3);
        Due.is("FULL", SmallWorlds.FULL, -4);
        Due.is("NONE", SmallWorlds.NONE, -9);
    }

    /** 2 calls to begin with, and 5 a turn: 512 in all. */
    private static void lawsForAllCalls() {
        SmallWorlds s = new SmallWorlds();
        s.put(0, 1);
        s.make(0, 3, 0);
        for (int turn = 0; turn < 102; turn++) {
            Due.is("law(3, turn % 2)", s.law(3, turn % 2), 0);
            Due.is("worlds(3, false)", s.worlds(3, false), 1);
            Due.is("many(0)", s.many(0), turn % 2 == 0 ? 14 : 6);
            Due.is("deny(0, 0)", s.deny(0, 0), Due.NONE);
            Due.is("unlaw()", s.unlaw(), 0);
        }
    }

    private static void theLastCall() {
        SmallWorlds s = new SmallWorlds();
        for (int call = 1; call <= 510; call++) {
            s.list(call % 3);
        }
        Due.is("put(0, 0), the 511th", s.put(0, 0), 3);
        Due.is("shown(3, 3), the 512th", s.shown(3, 3), 0);
    }
}
