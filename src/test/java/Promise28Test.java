/** Promise 28: sheet. */
public final class Promise28Test {
    private static final Due due = new Due("promise 28, sheet");
    private static final int MIN = Integer.MIN_VALUE, MAX = Integer.MAX_VALUE;

    public static void main(String[] args) {
        ofN();
        ofNone();
        ofSorts();
        all0();
        becomesMissing();
        nDoesNotMatter();
        justThatSheet();
        nothingElse();
        badSheet();
        badSort();
        above40();
        below0();
        order();
        due.end();
    }

    private static void ofN() {
        due.sentence("A SHEET becomes a row of n: 1 .. 40");
        for (int n = 1; n <= 40; n++) {
            WellGivesOther x = new WellGivesOther();
            due.is("sheet of " + n, 1, x.sheet(0, 2, n));
            due.is("the last", 1, x.cell(0, n - 1, 5));
            due.is("behind the last", -12, x.cell(0, n, 5));
        }
    }

    private static void ofNone() {
        due.sentence("n 0: a row of none, that is not missing");
        for (int sort = 0; sort < 3; sort++) {
            WellGivesOther x = new WellGivesOther();
            due.is("sheet", 1, x.sheet(0, sort, 0));
            due.is("cell", -12, x.cell(0, 0, 5));
            due.is("map", 0, x.map(0));
        }
    }

    private static void ofSorts() {
        due.sentence("of a sort: 0 bytes, 1 shorts, 2 ints");
        for (int sort = 0; sort < 3; sort++) {
            WellGivesOther x = Wells.of(0);
            due.is("sheet of sort " + sort, 1, x.sheet(0, sort, 2));
            for (int asked = 0; asked < 3; asked++) due.is("taken for " + asked, asked == sort ? 0 : -13, x.askers(0, asked, 0, 0));
        }
        due.sentence("of another sort than it was");
        WellGivesOther x = Wells.of(0);
        x.sheet(0, 0, 2);
        x.sheet(0, 2, 2);
        x.cell(0, 0, 4095);
        x.cell(0, 1, 4095);
        due.is("an int", 4095, Wells.numberAt(x, 0, 2, 0, 0));
        x.sheet(0, 0, 2);
        x.cell(0, 0, 4095);
        due.is("a byte", -1, Wells.numberAt(x, 0, 0, 0, 0));
    }

    private static void all0() {
        due.sentence("all 0");
        for (int sort = 0; sort < 3; sort++) {
            WellGivesOther x = Wells.of(0);
            Wells.fillOf(x, 0, sort, 1, 2, 3, 4, 5, 6);
            x.sheet(0, sort, 6);
            for (int i = 0; i < 6; i++) due.is("number " + i, 0, Wells.numberAt(x, 0, sort, i, 0));
            Wells.fillOf(x, 1, sort, 1, 2, 3, 4, 5, 6);
            x.sheet(1, sort, 2);
            x.sheet(1, sort, 6);
            for (int i = 0; i < 6; i++) due.is("number " + i + " as it was shorter", 0, Wells.numberAt(x, 1, sort, i, 0));
            Wells.fillOf(x, 2, sort, 1, 2, 3, 4, 5, 6);
            x.sheet(2, -1, 0);
            x.sheet(2, sort, 6);
            for (int i = 0; i < 6; i++) due.is("number " + i + " as it was missing", 0, Wells.numberAt(x, 2, sort, i, 0));
        }
        WellGivesOther x = Wells.of(0);
        Wells.fill(x, 0, new int[40]);
        x.cell(0, 39, 7);
        x.sheet(0, 2, 40);
        due.is("number 39", 0, Wells.numberAt(x, 0, 2, 39, 0));
    }

    private static void becomesMissing() {
        due.sentence("or missing (sort -1)");
        for (int sort = -1; sort < 3; sort++) {
            WellGivesOther x = new WellGivesOther();
            x.sheet(0, sort, 3);
            due.is("sheet", 1, x.sheet(0, -1, 3));
            due.is("cell", -11, x.cell(0, 0, 5));
        }
    }

    private static void nDoesNotMatter() {
        due.sentence("sort -1: n does not matter");
        int[] ns = {0, 40, 41, -1, MIN, MAX};
        for (int n : ns) {
            WellGivesOther x = new WellGivesOther();
            x.sheet(2, 1, 3);
            due.is("sheet, n " + n, 1, x.sheet(2, -1, n));
            due.is("cell", -11, x.cell(2, 0, 5));
        }
    }

    private static void justThatSheet() {
        due.sentence("SHEETS 0 .. 3, and that one alone");
        for (int sheet = 0; sheet < 4; sheet++) {
            WellGivesOther x = new WellGivesOther();
            due.is("sheet", 1, x.sheet(sheet, 2, 3));
            for (int other = 0; other < 4; other++) due.is("cell of " + other, other == sheet ? 1 : -11, x.cell(other, 2, 5));
        }
    }

    private static void nothingElse() {
        due.sentence("nothing but the SHEET is otherwise");
        WellGivesOther x = Wells.lively();
        x.sheet(3, 2, 40);
        x.sheet(3, -1, 0);
        due.isTrue("all else", Wells.story(x).equals(Wells.story(Wells.lively())));
    }

    private static void badSheet() {
        due.sentence("BAD: no such SHEET");
        due.refused(-2, x -> x.sheet(4, 0, 1), x -> x.sheet(-1, 0, 1), x -> x.sheet(MIN, 2, 1), x -> x.sheet(MAX, 2, 1), x -> x.sheet(4, -1, 0),
            x -> x.sheet(-1, -1, 0));
    }

    private static void badSort() {
        due.sentence("BAD: no such sort");
        due.refused(-2, x -> x.sheet(0, 3, 1), x -> x.sheet(0, -2, 1), x -> x.sheet(0, MIN, 1), x -> x.sheet(0, MAX, 1), x -> x.sheet(3, 3, 0));
    }

    private static void above40() {
        due.sentence("BAD: n above 40");
        for (int sort = 0; sort < 3; sort++) {
            int s = sort;
            due.refused(-2, x -> x.sheet(0, s, 41), x -> x.sheet(3, s, 41), x -> x.sheet(0, s, MAX));
        }
    }

    private static void below0() {
        due.sentence("-14: a size below 0");
        for (int sort = 0; sort < 3; sort++) {
            int s = sort;
            due.refused(-14, x -> x.sheet(0, s, -1), x -> x.sheet(3, s, -1), x -> x.sheet(0, s, MIN));
        }
    }

    private static void order() {
        due.sentence("BAD ahead of -14");
        due.refused(-2, x -> x.sheet(4, 0, -1), x -> x.sheet(0, 3, -1), x -> x.sheet(0, -2, -1), x -> x.sheet(-1, 2, MIN));
    }
}
