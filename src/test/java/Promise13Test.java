/** Promise 13: row. */
public final class Promise13Test {
    private static final Due due = new Due("promise 13, row");
    private static final int MIN = Integer.MIN_VALUE, MAX = Integer.MAX_VALUE;

    public static void main(String[] args) {
        last();
        lastIsNothing();
        howManyTimesNothing();
        gladTogether();
        costsTogether();
        shutThen();
        hadThen();
        byNone();
        oneBehindTheOther();
        ofEachSort();
        inThought();
        leastAndGreatest();
        badSheet();
        badOne();
        badWhat();
        missing();
        noSuchSet();
        order();
        due.end();
    }

    private static int row(WellGivesOther x, int what, int... sets) {
        Wells.fill(x, 0, sets);
        return x.row(0, 0, what);
    }

    private static void last() {
        due.sentence("what is given last (what 0)");
        due.is("of one asking", 1, row(Wells.of(0), 0, 1));
        due.is("of two", 0, row(Wells.of(0), 0, 1024, 2));
        due.is("of 40", 11, row(Wells.of(2), 0, new int[] {1, 2, 4, 8, 16, 32, 64, 128, 256, 512, 1024, 1, 1, 1, 1, 1, 1, 1, 1, 1,
            1, 1, 1, 1, 1, 1, 1, 1, 1, 1, 1, 1, 1, 1, 1, 1, 1, 1, 1, 1}));
    }

    private static void lastIsNothing() {
        due.sentence("what is given last (what 0; NONE): nothing by the last asking");
        due.is("something, then nothing", -1, row(Wells.of(0), 0, 1, 4095));
        due.is("nothing, then something", 2, row(Wells.of(5), 0, 4095, 3));
        due.is("nothing", -1, row(Wells.of(0), 0, 4095));
    }

    private static void howManyTimesNothing() {
        due.sentence("how many times nothing (1)");
        due.is("never", 0, row(Wells.of(0), 1, 1, 2, 4));
        due.is("once", 1, row(Wells.of(5), 1, 1, 4095, 4));
        due.is("each time", 3, row(Wells.of(0), 1, 4095, 1, 2));
    }

    private static void gladTogether() {
        due.sentence("how GLAD, together (2)");
        due.is("1 and 3", 4, row(Wells.of(0), 2, 1, 6));
        due.is("9 and nothing and 9", 18, row(Wells.of(5), 2, 1, 4095, 2));
        due.is("of nothing", 0, row(Wells.of(5), 2, 4095, 4095));
        WellGivesOther x = Wells.of(0);
        Wells.rule(x, "gives 0;glads 0-99;costs 0;");
        due.is("below 0, beyond -99", -297, row(x, 2, 1, 1, 1));
        WellGivesOther y = Wells.of(0);
        Wells.rule(y, "gives 0;glads 99;costs 0;");
        due.is("beyond 99", 297, row(y, 2, 1, 1, 1));
        due.sentence("how GLAD (2): told ahead, by what one HAD then");
        WellGivesOther z = Wells.of(0);
        Wells.rule(z, "gives had;glads had*10;costs 0;");
        due.is("0, 10, 20", 30, row(z, 2, 1, 1, 1));
    }

    private static void costsTogether() {
        due.sentence("what it COSTS, together (3)");
        due.is("1, 2, 12, also by nothing", 15, row(Wells.of(0), 3, 1, 6, 4095));
        WellGivesOther x = Wells.of(0);
        Wells.rule(x, "gives 0;glads 0;costs 99;");
        x.set(4, 0, 9950);
        due.is("beyond what SPENT can be", 297, row(x, 3, 1, 1, 1));
        due.sentence("what it COSTS (3): told ahead, by what one HAD then");
        WellGivesOther y = Wells.of(0);
        Wells.rule(y, "gives had;glads 0;costs had+1;");
        due.is("1, 2, 3", 6, row(y, 3, 1, 1, 1));
    }

    private static void shutThen() {
        due.sentence("SHUT then (4; bits)");
        int[] shut = {Wells.set(0, 1, 6, 7), Wells.set(0, 6, 7), Wells.set(0, 1, 5, 6, 7), Wells.set(0, 6, 7), Wells.set(0, 1, 5, 6, 7),
            Wells.set(7)};
        for (int kind = 0; kind < 6; kind++) {
            WellGivesOther x = Wells.of(kind);
            x.like(5, 6, 1);
            x.set(2, 0, Wells.set(7));
            due.is("to " + kind, shut[kind], row(x, 4, Wells.set(0, 1), Wells.set(6)));
        }
        due.is("by nothing given, too", 4095, row(Wells.of(0), 4, 4095));
    }

    private static void hadThen() {
        due.sentence("HAD then (5; bits)");
        WellGivesOther x = Wells.of(0);
        x.set(3, 0, Wells.set(11));
        due.is("1, 3, nothing", Wells.set(1, 3, 11), row(x, 5, 1, 6, 4095));
        due.is("nothing", Wells.set(11), row(x, 5, 4095));
    }

    private static void byNone() {
        due.sentence("by none: NONE, 0, 0, 0, SHUT and HAD as they are");
        for (int sort = 0; sort < 3; sort++) {
            WellGivesOther x = Wells.of(0);
            x.set(2, 0, 6);
            x.set(3, 0, 9);
            x.sheet(0, sort, 0);
            int[] want = {-1, 0, 0, 0, 6, 9};
            for (int what = 0; what < 6; what++) due.is("row " + what, want[what], x.row(0, 0, what));
        }
    }

    private static void oneBehindTheOther() {
        due.sentence("one behind the other: what was SHUT, what one HAD by those ahead");
        due.is("ASKER: 1 by 0, then 2 by 1", 2, row(Wells.of(0), 0, 1, 2));
        due.is("OLD: 1 by 0, then 2 by 0", 2, row(Wells.of(5), 0, 1, 1));
        due.is("CLERK: 0 by 1, then 0 by 2", 0, row(Wells.of(1), 0, 2, 4));
        due.is("CLERK: 1 by 0, then 2 by 1", 2, row(Wells.of(1), 0, 1, 2));
        due.is("TWIN: 10 by 11, then 9 by 10", 9, row(Wells.of(2), 0, 2048, 1024));
        due.sentence("DAY stays from one to the other");
        WellGivesOther x = Wells.of(0);
        x.set(0, 0, 4);
        due.is("5 by 0, 6 by 1", 6, row(x, 0, 1, 2));
        due.is("DAY", 4, x.count(2));
    }

    private static void ofEachSort() {
        due.sentence("sets that a SHEET tells, of bytes, shorts, ints");
        for (int sort = 0; sort < 3; sort++) {
            WellGivesOther x = Wells.of(0);
            Wells.fillOf(x, 3, sort, 1, 2, 127);
            due.is("of sort " + sort, 127, x.row(3, 0, 4));
        }
    }

    private static void inThought() {
        due.sentence("A ROW, in thought");
        for (int kind = 0; kind < 6; kind++) {
            WellGivesOther x = Wells.of(kind, kind);
            Wells.fill(x, 0, 1, 6, 4095, 8);
            for (int what = 0; what < 6; what++) x.row(0, 0, what);
            for (int what = 2; what < 5; what++) due.is("told(0, " + what + ") of " + kind, 0, x.told(0, what));
        }
        WellGivesOther x = Wells.lively();
        x.row(0, 0, 0);
        due.isTrue("all is as it was", Wells.story(x).equals(Wells.story(Wells.lively())));
    }

    private static void leastAndGreatest() {
        due.sentence("sets (1 .. 4095)");
        due.is("the least", 1, row(Wells.of(0), 4, 1));
        due.is("the greatest", 4095, row(Wells.of(0), 4, 4095));
    }

    private static void badSheet() {
        due.sentence("-1000: SHEET");
        due.refused(-1000, x -> x.row(4, 0, 0), x -> x.row(-1, 0, 0), x -> x.row(MIN, 0, 0), x -> x.row(MAX, 0, 0));
    }

    private static void badOne() {
        due.sentence("-1000: one");
        due.refused(-1000, x -> x.row(0, 4, 0), x -> x.row(0, -1, 0), x -> x.row(0, 5, 0), x -> x.row(0, MIN, 0), x -> x.row(0, MAX, 0));
    }

    private static void badWhat() {
        due.sentence("-1000: what");
        due.refused(-1000, x -> x.row(0, 0, 6), x -> x.row(0, 0, -1), x -> x.row(0, 0, MIN), x -> x.row(0, 0, MAX));
    }

    private static void missing() {
        due.sentence("-1011: the SHEET is missing");
        for (int what = 0; what < 6; what++) {
            int w = what;
            due.refused(-1011, x -> x.row(3, 0, w));
        }
    }

    private static void noSuchSet() {
        due.sentence("-1002: it tells one that is no such set");
        int[][] rows = {{0}, {4096}, {-1}, {1, 0}, {1, 2, 4, 4096}, {0, 1}, {4096, 1}, {1, -4095, 1}, {MIN}, {MAX}, {1, 4097}};
        for (int[] sets : rows) {
            for (int what = 0; what < 6; what++) due.is("a row of " + sets.length, -1002, row(Wells.of(0), what, sets));
        }
        WellGivesOther x = Wells.of(0);
        x.sheet(0, 0, 1);
        due.is("a byte 0", -1002, x.row(0, 0, 0));
        x.cell(0, 0, 128);
        due.is("a byte 128, that is -128", -1002, x.row(0, 0, 0));
        WellGivesOther y = Wells.lively();
        y.cell(0, 3, 4096);
        y.row(0, 0, 4);
        WellGivesOther z = Wells.lively();
        z.cell(0, 3, 4096);
        due.isTrue("changes nothing", Wells.story(y).equals(Wells.story(z)));
    }

    private static void order() {
        due.sentence("-1000 ahead of -1011");
        due.refused(-1000, x -> x.row(3, 4, 0), x -> x.row(3, 0, 6), x -> x.row(3, -1, -1));
        due.sentence("-1000 ahead of -1002");
        WellGivesOther x = Wells.of(0);
        Wells.fill(x, 0, 4096);
        due.is("one", -1000, x.row(0, 1, 0));
        due.is("what", -1000, x.row(0, 0, 6));
    }
}
