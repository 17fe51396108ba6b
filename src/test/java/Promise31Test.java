/** Promise 31: askers. */
public final class Promise31Test {
    private static final Due due = new Due("promise 31, askers");
    private static final int MIN = Integer.MIN_VALUE, MAX = Integer.MAX_VALUE;

    public static void main(String[] args) {
        twoByTwo();
        fromOneOn();
        asOneComes();
        ofEachSort();
        othersAreLeftOut();
        fullOnesAreLeftOut();
        none();
        five();
        badSheet();
        badSort();
        badN();
        unlike();
        missing();
        outside();
        whatStoodAheadCame();
        order();
        due.end();
    }

    private static WellGivesOther filled(int sort, int... numbers) {
        WellGivesOther x = new WellGivesOther();
        Wells.fillOf(x, 0, sort, numbers);
        return x;
    }

    /** The KIND and NUMBER of those that are there, one behind the other. */
    private static void are(WellGivesOther x, int... kindsAndNumbers) {
        due.is("count(0)", kindsAndNumbers.length / 2, x.count(0));
        for (int one = 0; one < kindsAndNumbers.length / 2; one++) {
            due.is("KIND of " + one, kindsAndNumbers[2 * one], x.told(one, 5));
            due.is("NUMBER of " + one, kindsAndNumbers[2 * one + 1], x.told(one, 1));
        }
    }

    private static void twoByTwo() {
        due.sentence("ASKERS by a SHEET, two by two (as of asker()), n of them: how many came");
        WellGivesOther x = filled(2, 5, 9, 3, 0, 1, 2);
        due.is("one", 1, x.askers(0, 2, 0, 1));
        are(x, 5, 9);
        due.is("three more", 3, x.askers(0, 2, 0, 3));
        are(x, 5, 9, 5, 9, 3, 0, 1, 2);
    }

    private static void fromOneOn() {
        due.sentence("from one on");
        WellGivesOther x = filled(2, 5, 4, 3, 0, 1);
        due.is("from 1", 2, x.askers(0, 2, 1, 2));
        are(x, 4, 3, 0, 1);
        due.is("from 3, the last two", 1, x.askers(0, 2, 3, 1));
        are(x, 4, 3, 0, 1, 0, 1);
    }

    private static void asOneComes() {
        due.sentence("as of asker(): nothing is SHUT, HAD, SPENT");
        WellGivesOther x = filled(2, 1, 2);
        x.askers(0, 2, 0, 1);
        for (int what = 2; what < 5; what++) due.is("told(0, " + what + ")", 0, x.told(0, what));
    }

    private static void ofEachSort() {
        due.sentence("a SHEET that is taken for one of a sort: of its own");
        for (int sort = 0; sort < 3; sort++) {
            WellGivesOther x = filled(sort, 2, 9);
            due.is("askers", 1, x.askers(0, sort, 0, 1));
            are(x, 2, 9);
        }
    }

    private static void othersAreLeftOut() {
        due.sentence("others are left out: no such KIND, no such NUMBER");
        WellGivesOther x = filled(2, 6, 0, 1, 2, -1, 0, 0, 10, 3, 4);
        due.is("two of five", 2, x.askers(0, 2, 0, 5));
        are(x, 1, 2, 3, 4);
        WellGivesOther y = filled(2, 0, -1, 6, 10, MIN, MAX);
        due.is("none of three", 0, y.askers(0, 2, 0, 3));
        are(y);
        WellGivesOther z = filled(0, 0, 0, 5, 9);
        due.is("the least and the greatest", 2, z.askers(0, 0, 0, 2));
        are(z, 0, 0, 5, 9);
    }

    private static void fullOnesAreLeftOut() {
        due.sentence("others are left out: 5 at most");
        WellGivesOther x = filled(2, 1, 1, 2, 2, 3, 3);
        x.asker(0, 0);
        x.asker(0, 0);
        x.asker(0, 0);
        due.is("two of three", 2, x.askers(0, 2, 0, 3));
        are(x, 0, 0, 0, 0, 0, 0, 1, 1, 2, 2);
        due.is("none of three", 0, x.askers(0, 2, 0, 3));
        due.is("count(0)", 5, x.count(0));
        due.is("outside, though none has room", -12, x.askers(0, 2, 0, 4));
    }

    private static void none() {
        due.sentence("n of them (0): none came");
        WellGivesOther x = filled(2, 1, 1);
        due.is("from 0", 0, x.askers(0, 2, 0, 0));
        due.is("from the end", 0, x.askers(0, 2, 2, 0));
        are(x);
        due.sentence("n of them (0): no place is looked at");
        int[] froms = {3, 40, -1, MIN, MAX};
        for (int from : froms) due.is("from " + from, 0, x.askers(0, 2, from, 0));
    }

    private static void five() {
        due.sentence("n of them (.. 5)");
        WellGivesOther x = filled(0, 9, 9, 0, 1, 1, 2, 2, 3, 3, 4, 4, 5);
        due.is("five", 5, x.askers(0, 0, 2, 5));
        are(x, 0, 1, 1, 2, 2, 3, 3, 4, 4, 5);
    }

    private static void badSheet() {
        due.sentence("BAD: no such SHEET");
        due.refused(-2, x -> x.askers(4, 2, 0, 1), x -> x.askers(-1, 2, 0, 1), x -> x.askers(4, 2, 0, 0), x -> x.askers(MIN, 2, 0, 0),
            x -> x.askers(MAX, 2, 0, 1));
    }

    private static void badSort() {
        due.sentence("BAD: no such sort");
        due.refused(-2, x -> x.askers(0, 3, 0, 1), x -> x.askers(0, -1, 0, 1), x -> x.askers(3, -1, 0, 0), x -> x.askers(0, MIN, 0, 0),
            x -> x.askers(0, MAX, 0, 1));
    }

    private static void badN() {
        due.sentence("BAD: n is none of 0 .. 5");
        due.refused(-2, x -> x.askers(2, 1, 0, 6), x -> x.askers(0, 2, 0, -1), x -> x.askers(0, 2, 0, MIN), x -> x.askers(2, 1, 0, MAX));
    }

    private static void unlike() {
        due.sentence("-13: a SHEET of another sort");
        for (int sheet = 0; sheet < 3; sheet++) {
            for (int sort = 0; sort < 3; sort++) {
                int sh = sheet;
                int so = sort;
                // Of SHEETS 0, 1, 2 the sorts are 2, 0, 1.
                if ((sheet + 2) % 3 != sort) due.refused(-13, x -> x.askers(sh, so, 0, 1), x -> x.askers(sh, so, 0, 0));
            }
        }
    }

    private static void missing() {
        due.sentence("-11: the SHEET is missing, taken for one of whatever sort");
        for (int sort = 0; sort < 3; sort++) {
            int s = sort;
            due.refused(-11, x -> x.askers(3, s, 0, 1), x -> x.askers(3, s, 0, 0));
        }
    }

    private static void outside() {
        due.sentence("-12: a place outside");
        due.refused(-12, x -> x.askers(0, 2, 4, 1), x -> x.askers(0, 2, -1, 1), x -> x.askers(0, 2, -2, 1), x -> x.askers(0, 2, 40, 1),
            x -> x.askers(0, 2, MIN, 1), x -> x.askers(0, 2, MAX, 1), x -> x.askers(0, 2, MAX - 1, 5), x -> x.askers(0, 2, MIN, 5));
        due.sentence("-12: the second of two outside");
        due.refused(-12, x -> x.askers(0, 2, 3, 1), x -> x.askers(1, 0, 2, 1), x -> x.askers(2, 1, 12, 1));
        WellGivesOther x = new WellGivesOther();
        x.sheet(0, 2, 0);
        due.is("of a row of none", -12, x.askers(0, 2, 0, 1));
        x.sheet(0, 2, 40);
        due.is("of 40, from 39", -12, x.askers(0, 2, 39, 1));
        due.is("of 40, from 38", 1, x.askers(0, 2, 38, 1));
    }

    private static void whatStoodAheadCame() {
        due.sentence("-12: what stood ahead came");
        WellGivesOther x = filled(2, 1, 2, 6, 0, 3, 4, 5);
        due.is("three and one outside", -12, x.askers(0, 2, 0, 4));
        are(x, 1, 2, 3, 4);
        WellGivesOther y = filled(2, 1, 2);
        due.is("one and one outside", -12, y.askers(0, 2, 0, 2));
        are(y, 1, 2);
    }

    private static void order() {
        due.sentence("BAD ahead of -13, -11");
        due.refused(-2, x -> x.askers(0, 0, 0, 6), x -> x.askers(3, 0, 0, 6), x -> x.askers(3, 3, 0, 0), x -> x.askers(0, 1, 0, -1));
        due.sentence("-13 ahead of -12");
        due.refused(-13, x -> x.askers(0, 0, -1, 1), x -> x.askers(0, 1, 40, 5), x -> x.askers(1, 2, 3, 1));
        due.sentence("-11 ahead of -12");
        due.refused(-11, x -> x.askers(3, 0, -1, 1), x -> x.askers(3, 2, 40, 5));
    }
}
