/** Promise 14: rows. */
public final class Promise14Test {
    private static final Due due = new Due("promise 14, rows");
    private static final int MIN = Integer.MIN_VALUE, MAX = Integer.MAX_VALUE;

    public static void main(String[] args) {
        howManyTimes();
        truly();
        asAskedOneByOne();
        spent();
        byNone();
        justThatOne();
        badSheet();
        badOne();
        missing();
        noSuchSet();
        order();
        due.end();
    }

    private static int rows(WellGivesOther x, int... sets) {
        Wells.fill(x, 0, sets);
        return x.rows(0, 0);
    }

    private static void told(WellGivesOther x, int shut, int had, int spent) {
        due.is("SHUT", shut, x.told(0, 2));
        due.is("HAD", had, x.told(0, 3));
        due.is("SPENT", spent, x.told(0, 4));
    }

    private static void howManyTimes() {
        due.sentence("how many times something was given");
        due.is("each time", 3, rows(Wells.of(0), 1, 2, 4));
        due.is("never", 0, rows(Wells.of(0), 4095, 1, 2));
        due.is("once", 1, rows(Wells.of(0), 1, 4095, 2));
        due.is("the same THING twice", 2, rows(Wells.of(0), 1, 1));
        due.is("40 times", 40, rows(Wells.of(3), new int[] {1, 1, 1, 1, 1, 1, 1, 1, 1, 1, 1, 1, 1, 1, 1, 1, 1, 1, 1, 1,
            1, 1, 1, 1, 1, 1, 1, 1, 1, 1, 1, 1, 1, 1, 1, 1, 1, 1, 1, 1}));
    }

    private static void truly() {
        due.sentence("It, truly");
        WellGivesOther x = Wells.of(0);
        // 1 by 0; of 3 .. 11 the first; nothing twice.
        due.is("rows", 2, rows(x, 1, 6, 4095, 8));
        told(x, 4095, Wells.set(1, 3), 16);
        due.is("rows again", 0, x.rows(0, 0));
        told(x, 4095, Wells.set(1, 3), 32);
    }

    private static void asAskedOneByOne() {
        due.sentence("ASKED, one set behind the other");
        for (int kind = 0; kind < 6; kind++) {
            WellGivesOther x = Wells.of(kind, 0);
            WellGivesOther y = Wells.of(kind, 0);
            int[] sets = {1, 18, 260, 2048, 9, 1};
            int given = 0;
            for (int set : sets) if (y.ask(0, set) != -1) given++;
            due.is("rows of " + kind, given, rows(x, sets));
            for (int what = 1; what < 6; what++) due.is("told(0, " + what + ")", y.told(0, what), x.told(0, what));
        }
    }

    private static void spent() {
        due.sentence("SPENT: 9999 at most");
        WellGivesOther x = Wells.of(0);
        Wells.rule(x, "gives 0;glads 0;costs 99;");
        x.set(4, 0, 9800);
        rows(x, 1, 1);
        due.is("two", 9998, x.told(0, 4));
        rows(x, 1, 1);
        due.is("two more", 9999, x.told(0, 4));
    }

    private static void byNone() {
        due.sentence("by none: 0, and nothing changes");
        WellGivesOther x = Wells.of(0);
        x.set(2, 0, 6);
        x.set(3, 0, 9);
        x.set(4, 0, 5);
        due.is("rows", 0, rows(x));
        told(x, 6, 9, 5);
    }

    private static void justThatOne() {
        due.sentence("of that one alone");
        WellGivesOther x = Wells.of(0, 0, 0);
        Wells.fill(x, 2, 1, 2);
        due.is("rows", 2, x.rows(2, 1));
        for (int what = 2; what < 5; what++) due.is("told(0, " + what + ")", 0, x.told(0, what));
        for (int what = 2; what < 5; what++) due.is("told(2, " + what + ")", 0, x.told(2, what));
        due.is("HAD", 6, x.told(1, 3));
        due.is("DAY", 0, x.count(2));
    }

    private static void badSheet() {
        due.sentence("-1000: SHEET");
        due.refused(-1000, x -> x.rows(4, 0), x -> x.rows(-1, 0), x -> x.rows(MIN, 0), x -> x.rows(MAX, 0));
    }

    private static void badOne() {
        due.sentence("-1000: one");
        due.refused(-1000, x -> x.rows(0, 4), x -> x.rows(0, -1), x -> x.rows(0, 5), x -> x.rows(0, MIN), x -> x.rows(0, MAX));
    }

    private static void missing() {
        due.sentence("-1011: the SHEET is missing");
        due.refused(-1011, x -> x.rows(3, 0), x -> x.rows(3, 3));
    }

    private static void noSuchSet() {
        due.sentence("-1002: it tells one that is no such set; those ahead are not asked for");
        int[][] rows = {{0}, {4096}, {-1}, {1, 0}, {1, 2, 4, 4096}, {0, 1}, {4096, 1}, {MIN}, {MAX}};
        for (int[] sets : rows) {
            WellGivesOther x = Wells.of(0);
            due.is("a row of " + sets.length, -1002, rows(x, sets));
            told(x, 0, 0, 0);
        }
        due.sentence("sets (1 .. 4095)");
        due.is("the least", 1, rows(Wells.of(0), 1));
        due.is("the greatest", 0, rows(Wells.of(0), 4095));
    }

    private static void order() {
        due.sentence("-1000 ahead of -1011");
        due.refused(-1000, x -> x.rows(3, 4), x -> x.rows(3, -1));
        due.sentence("-1000 ahead of -1002");
        WellGivesOther x = Wells.of(0);
        Wells.fill(x, 0, 4096);
        due.is("one", -1000, x.rows(0, 1));
    }
}
