/** Holds answers against what is due, under the sentence of the document that is tested. */
final class Due {
    static final int UNKNOWN = -1, OUTSIDE = -2, STATE = -3, FULL = -4, NONE = -9;
    static final int LOW = Integer.MIN_VALUE, HIGH = Integer.MAX_VALUE;

    private static int promise = 0;
    private static String sentence = "";
    private static int tests = 0;
    private static int answers = 0;
    private static int wrong = 0;

    private Due() {
    }

    /** A test of one sentence; one that looks at no answer is wrong, too. */
    static void test(int ofPromise, String words, Runnable body) {
        promise = ofPromise;
        sentence = words;
        tests++;
        int before = answers;
        body.run();
        if (answers == before) {
            tell("no answer was looked at");
        }
    }

    static void is(String call, int got, int want) {
        answers++;
        if (got != want) {
            tell(call + " answered " + got + ", due is " + want);
        }
    }

    static void like(String what, String got, String want) {
        answers++;
        if (!got.equals(want)) {
            tell(what + " came to\n    " + got + "\n  due is\n    " + want);
        }
    }

    private static void tell(String what) {
        wrong++;
        System.out.println("promise " + promise + " (" + sentence + "): " + what);
    }

    static void end() {
        System.out.println(wrong == 0 ? tests + " sentences hold" : wrong + " answers are not as due");
        if (wrong != 0) {
            System.exit(1);
        }
    }

    /** The number of a world whose table is written line by line, as "122 020 110". */
    static int number(String table) {
        String cells = table.replace(" ", "");
        int size = cells.length() == 1 ? 1 : cells.length() == 4 ? 2 : 3;
        return Integer.parseInt(cells, Math.max(2, size));
    }

    /** Terms written out, as "(xy)(x(xy))", are told part by part. */
    static int term(SmallWorlds s, String written) {
        int[] at = {0};
        int term = onePart(s, written, at);
        while (at[0] < written.length()) {
            term = s.put(term, onePart(s, written, at));
        }
        return term;
    }

    private static int onePart(SmallWorlds s, String written, int[] at) {
        char sign = written.charAt(at[0]++);
        if (sign != '(') {
            return "xyz".indexOf(sign);
        }
        int term = onePart(s, written, at);
        while (written.charAt(at[0]) != ')') {
            term = s.put(term, onePart(s, written, at));
        }
        at[0]++;
        return term;
    }

    /** A law written out, as "xy = yx"; its terms are told, too. */
    static int law(SmallWorlds s, String written) {
        String[] sides = written.split(" = ");
        int left = term(s, sides[0]);
        return s.law(left, term(s, sides[1]));
    }

    static SmallWorlds page(String... laws) {
        SmallWorlds s = new SmallWorlds();
        for (String law : laws) {
            law(s, law);
        }
        return s;
    }

    /** Told terms up to 20: x, xx, (xx)x, .. : none is another one with terms set in but a letter. */
    static void fillTerms(SmallWorlds s) {
        int term = 0;
        for (int told = 0; told < 20 && s.count(0) < 20; told++) {
            term = s.put(term, 0);
        }
    }

    static void fillLaws(SmallWorlds s) {
        while (s.count(1) < 6) {
            s.law(0, 0);
        }
    }

    static void fillNotions(SmallWorlds s) {
        while (s.count(2) < 12) {
            s.make(0, 0, 1);
        }
    }
}
