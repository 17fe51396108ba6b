/** Promise 18: map. */
public final class Promise18Test {
    private static final Due due = new Due("promise 18, map");
    private static final int MIN = Integer.MIN_VALUE, MAX = Integer.MAX_VALUE;

    public static void main(String[] args) {
        cantBeLike();
        notOfItself();
        eachTwoOnce();
        emptySet();
        byNone();
        setsAndThings();
        ofEachSort();
        likesDoNotMatter();
        inThought();
        badSheet();
        missing();
        oddMany();
        noSuchSet();
        noSuchThing();
        due.end();
    }

    private static int map(int... numbers) {
        WellGivesOther x = new WellGivesOther();
        Wells.fill(x, 0, numbers);
        return x.map(0);
    }

    private static void cantBeLike() {
        due.sentence("a THING that was had on a set: not LIKE any of it");
        due.is("3 on 5", 1, map(Wells.set(5), 3));
        due.is("3 on 0, 1, 2", 3, map(Wells.set(0, 1, 2), 3));
        due.is("3 on 4, 5, 6", 3, map(Wells.set(4, 5, 6), 3));
        due.is("11 on 0", 1, map(Wells.set(0), 11));
        due.is("0 on 11", 1, map(Wells.set(11), 0));
        due.is("those of a set may be LIKE each other", 2, map(Wells.set(0, 1), 3));
    }

    private static void notOfItself() {
        due.sentence("two THINGS: a THING and itself are none");
        due.is("6 on 6", 0, map(Wells.set(6), 6));
        due.is("6 on 6, 7", 1, map(Wells.set(6, 7), 6));
        due.is("0 on all", 11, map(4095, 0));
    }

    private static void eachTwoOnce() {
        due.sentence("twos of THINGS: each once, however often it was told");
        due.is("again", 1, map(Wells.set(5), 3, Wells.set(5), 3));
        due.is("turned", 1, map(Wells.set(5), 3, Wells.set(3), 5));
        due.is("some again", 3, map(Wells.set(4, 5), 3, Wells.set(3, 4), 5));
        due.is("0, 11 on all", 21, map(4095, 0, 4095, 11));
        due.is("each on all", 66, map(4095, 0, 4095, 1, 4095, 2, 4095, 3, 4095, 4, 4095, 5, 4095, 6, 4095, 7, 4095, 8, 4095, 9,
            4095, 10, 4095, 11));
    }

    private static void emptySet() {
        due.sentence("a set (0 .. 4095): 0");
        due.is("3 on nothing", 0, map(0, 3));
        due.is("3 on nothing, 3 on 4", 1, map(0, 3, 16, 3));
    }

    private static void byNone() {
        due.sentence("by none: 0");
        due.is("a row of none", 0, map());
    }

    private static void setsAndThings() {
        due.sentence("two by two a set and a THING: up to the last of 40");
        int[] row = new int[40];
        due.is("20 times 0 on nothing", 0, map(row));
        row[38] = Wells.set(1, 2);
        due.is("the last two", 2, map(row));
        row[0] = Wells.set(11);
        due.is("the first two", 3, map(row));
    }

    private static void ofEachSort() {
        due.sentence("by what a SHEET tells, of bytes, shorts, ints");
        for (int sort = 0; sort < 3; sort++) {
            WellGivesOther x = new WellGivesOther();
            Wells.fillOf(x, 3, sort, 127, 11);
            due.is("of sort " + sort, 7, x.map(3));
        }
    }

    private static void likesDoNotMatter() {
        due.sentence("by what a SHEET tells, not by what is LIKE, and without ASKERS");
        WellGivesOther x = new WellGivesOther();
        x.like(3, 5, 1);
        Wells.fill(x, 0, Wells.set(5), 3);
        due.is("3 on 5", 1, x.map(0));
    }

    private static void inThought() {
        due.sentence("in thought");
        // SHEET 0 tells 1, 2, 4, 8: 2 on THING 0, and 8 on THING 2.
        due.inThought(2, x -> x.map(0));
    }

    private static void badSheet() {
        due.sentence("BAD: SHEET");
        due.refused(-2, x -> x.map(4), x -> x.map(-1), x -> x.map(MIN), x -> x.map(MAX));
    }

    private static void missing() {
        due.sentence("-11: the SHEET is missing");
        due.refused(-11, x -> x.map(3));
    }

    private static void oddMany() {
        due.sentence("BAD: it tells an odd many");
        due.is("one", -2, map(1));
        due.is("three", -2, map(1, 2, 3));
        due.is("39", -2, map(new int[39]));
        due.refused(-2, x -> x.map(1), x -> x.map(2));
    }

    private static void noSuchSet() {
        due.sentence("BAD: it tells no such set");
        due.is("4096", -2, map(4096, 0));
        due.is("-1", -2, map(-1, 0));
        due.is("4096, the last", -2, map(1, 2, 4096, 0));
        due.is("-1, the last", -2, map(1, 2, -1, 0));
        due.is("MIN", -2, map(MIN, 0));
        due.is("MAX", -2, map(MAX, 0));
        due.is("4095 is one", 11, map(4095, 5));
    }

    private static void noSuchThing() {
        due.sentence("BAD: it tells no such THING");
        due.is("12", -2, map(1, 12));
        due.is("-1", -2, map(1, -1));
        due.is("12, the last", -2, map(1, 2, 1, 12));
        due.is("-1, the last", -2, map(1, 2, 1, -1));
        due.is("12, the first", -2, map(1, 12, 1, 2));
        due.is("12 on nothing", -2, map(0, 12));
        due.is("MIN", -2, map(1, MIN));
        due.is("MAX", -2, map(1, MAX));
    }
}
