/** Promises 11 to 14: ask, day, row, rows. */
public final class AskingsTest {
    private static final Due due = new Due();
    private static final int MIN = Integer.MIN_VALUE, MAX = Integer.MAX_VALUE;

    public static void main(String[] args) {
        askings();
        toldAhead();
        spends();
        days();
        rowsInThought();
        rowsTruly();
        refusals();
        due.end("AskingsTest");
    }

    private static void told(WellGivesOther x, int one, int shut, int had, int spent) {
        due.is("shut", shut, x.told(one, 2));
        due.is("had", had, x.told(one, 3));
        due.is("spent", spent, x.told(one, 4));
    }

    private static void askings() {
        WellGivesOther x = new WellGivesOther();
        for (int kind = 0; kind < 6; kind++) if (kind != 4) x.asker(kind, 1);
        x.like(0, 1, 1);
        x.set(0, 0, 2);
        // ASKER: of 2 .. 11 the third. CLERK: the first. TWIN: the last. BISHOP: the second. OLD: the third.
        int[] given = {4, 1, 11, 2, 4};
        int[] shut = {1, 1, 3, 1, 0};
        for (int one = 0; one < 5; one++) {
            due.is("ask " + one, given[one], x.ask(one, 1));
            told(x, one, shut[one], 1 << given[one], 1);
        }
        due.is("the day stays", 2, x.count(2));
        // 4 is no longer for OLD, 0 and 1 are LIKE each other.
        due.is("ask old", 5, x.ask(4, 1));
        due.is("ask asker again", 4, x.ask(0, 1));
        told(x, 0, 1, 16, 2);
        due.is("nothing", -1, x.ask(0, 4094));
        told(x, 0, 4095, 16, 13);
        due.is("nothing any more", -1, x.ask(0, 1));
        told(x, 0, 4095, 16, 14);
        int[][] bad = {{5, 1}, {-1, 1}, {0, 0}, {0, -1}, {0, 4096}, {MIN, 1}, {0, MIN}, {MAX, MAX}};
        for (int[] b : bad) due.is("ask bad", -2, x.ask(b[0], b[1]));
        told(x, 0, 4095, 16, 14);
    }

    private static void toldAhead() {
        WellGivesOther x = new WellGivesOther();
        x.asker(0, 0);
        Due.read(x, "gives had;glads had*10;costs had+1;");
        x.force(1);
        Due.fill(x, 0, 1, 1, 1);
        // HAD is 0, 1, 2 ahead of each: 1, 2, 3 are given.
        due.is("glad told ahead", 30, x.row(0, 0, 2));
        due.is("cost told ahead", 6, x.row(0, 0, 3));
        due.is("last", 3, x.row(0, 0, 0));
        due.is("ask", 1, x.ask(0, 1));
        told(x, 0, 1, 2, 1);
        due.is("ask", 2, x.ask(0, 1));
        told(x, 0, 1, 6, 3);
    }

    private static void spends() {
        WellGivesOther x = new WellGivesOther();
        x.asker(0, 0);
        Due.read(x, "gives 0;glads 0;costs 99;");
        x.force(1);
        x.set(4, 0, 9900);
        x.ask(0, 1);
        due.is("spent", 9999, x.told(0, 4));
        x.ask(0, 1);
        due.is("spent 9999 at most", 9999, x.told(0, 4));
        x.set(4, 0, 9950);
        Due.fill(x, 0, 1, 1);
        due.is("a row's cost has no bound", 198, x.row(0, 0, 3));
        x.rows(0, 0);
        due.is("spent by a row", 9999, x.told(0, 4));
    }

    private static void days() {
        WellGivesOther x = new WellGivesOther();
        due.is("day", 1, x.day());
        x.set(0, 0, 998);
        due.is("day", 999, x.day());
        due.is("day 999", -3, x.day());
        due.is("day stays", 999, x.count(2));
    }

    private static void rowsInThought() {
        WellGivesOther x = new WellGivesOther();
        x.asker(2, 0);
        x.asker(5, 0);
        x.set(3, 1, Due.set(11));
        Due.fill(x, 0, Due.set(0), Due.set(1, 2), 4095, Due.set(3));
        // TWIN: the last but what the next one HAD: 10, 10, nothing, and 0 .. 11 are SHUT then.
        int[] want = {-1, 2, 20, 1 + 2 + 12 + 1, 4095, Due.set(10)};
        for (int what = 0; what < 6; what++) due.is("row " + what, want[what], x.row(0, 0, what));
        Due.fill(x, 1, 4095, Due.set(0));
        int[] asOld = {1, 1, 9, 13, 0, Due.set(1, 11)};
        for (int what = 0; what < 6; what++) due.is("row of old " + what, asOld[what], x.row(1, 1, what));
        told(x, 0, 0, 0, 0);
        told(x, 1, 0, 2048, 0);
        x.set(2, 0, 6);
        x.set(3, 0, 9);
        Due.fill(x, 2);
        int[] none = {-1, 0, 0, 0, 6, 9};
        for (int what = 0; what < 6; what++) due.is("row of none " + what, none[what], x.row(2, 0, what));
    }

    private static void rowsTruly() {
        WellGivesOther x = new WellGivesOther();
        x.asker(0, 0);
        Due.fill(x, 0, Due.set(0), Due.set(1, 2), 4095, Due.set(3));
        due.is("rows", 2, x.rows(0, 0));
        // 1 by the first; of 3 .. 11 the first; nothing twice.
        told(x, 0, 4095, Due.set(1, 3), 16);
        due.is("rows again", 0, x.rows(0, 0));
        told(x, 0, 4095, Due.set(1, 3), 32);
        Due.fill(x, 1);
        due.is("rows of none", 0, x.rows(1, 0));
        x.sheet(2, 1, 1);
        x.cell(2, 0, 4095);
        due.is("rows of shorts", 0, x.rows(2, 0));
    }

    private static void refusals() {
        WellGivesOther x = new WellGivesOther();
        x.asker(0, 0);
        Due.fill(x, 0, 1, 4096);
        Due.fill(x, 1, 4095, 0);
        Due.fill(x, 2, -1);
        int[][] bad = {{-1, 0, 0}, {4, 0, 0}, {0, 1, 0}, {0, -1, 0}, {0, 0, -1}, {0, 0, 6}, {3, 0, 6}, {3, 1, 0}, {MIN, MAX, MIN}};
        for (int[] b : bad) due.is("row bad", -1000, x.row(b[0], b[1], b[2]));
        due.is("row missing", -1011, x.row(3, 0, 0));
        for (int sheet = 0; sheet < 3; sheet++) {
            due.is("row no such set", -1002, x.row(sheet, 0, 5));
            due.is("rows no such set", -1002, x.rows(sheet, 0));
        }
        int[][] badRows = {{-1, 0}, {4, 0}, {0, 1}, {0, -1}, {3, 1}, {MAX, MIN}};
        for (int[] b : badRows) due.is("rows bad", -1000, x.rows(b[0], b[1]));
        due.is("rows missing", -1011, x.rows(3, 0));
        told(x, 0, 0, 0, 0);
    }
}
