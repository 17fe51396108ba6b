/** Promise 22: film. */
public final class Promise22Test {
    private static final Due due = new Due("promise 22, film");
    private static final int MIN = Integer.MIN_VALUE, MAX = Integer.MAX_VALUE;

    public static void main(String[] args) {
        whatIsGiven();
        nothing();
        bytesOfTwelve();
        whateverItWas();
        now();
        anySheet();
        nothingElse();
        badSheet();
        badOne();
        due.end();
    }

    private static void tellsSo(WellGivesOther x, int sheet, int... numbers) {
        for (int i = 0; i < 12; i++) due.is("number " + i, numbers[i], Wells.numberAt(x, sheet, 0, i, 1));
    }

    private static void whatIsGiven() {
        due.sentence("A SHEET truly becomes what is given to one by asking for THINGS 0 .. 11, each alone: how many times something");
        int[] first = {1, 0, 0, 0, 0, 0, 0, 0, 0, 0, 0, 0};
        int[] last = {11, 11, 11, 11, 11, 11, 11, 11, 11, 11, 11, 10};
        int[] fifth = {5, 5, 5, 5, 5, 4, 4, 4, 4, 4, 4, 4};
        int[][] given = {first, first, last, fifth, first, first};
        for (int kind = 0; kind < 6; kind++) {
            WellGivesOther x = new WellGivesOther();
            x.asker(kind, 4);
            x.asker(0, 0);
            due.is("film of " + kind, 12, x.film(0, 0));
            tellsSo(x, 0, given[kind]);
        }
    }

    private static void nothing() {
        due.sentence("NONE: nothing");
        WellGivesOther x = Wells.of(0, 0);
        x.set(2, 0, 4095 & ~Wells.set(7));
        due.is("film of 7 alone", 11, x.film(0, 0));
        tellsSo(x, 0, 7, 7, 7, 7, 7, 7, 7, -1, 7, 7, 7, 7);
        x.set(2, 0, 4095);
        due.is("film of none", 0, x.film(0, 0));
        tellsSo(x, 0, -1, -1, -1, -1, -1, -1, -1, -1, -1, -1, -1, -1);
        due.is("as tells() asks for it", -1, x.tells(0, 0, 0));
    }

    private static void bytesOfTwelve() {
        due.sentence("bytes");
        WellGivesOther x = Wells.of(0, 0);
        x.film(0, 0);
        due.is("of bytes", 0, x.askers(0, 0, 0, 0));
        due.is("not of shorts", -13, x.askers(0, 1, 0, 0));
        due.is("not of ints", -13, x.askers(0, 2, 0, 0));
        due.sentence("of THINGS 0 .. 11: twelve");
        due.is("the last", 1, x.cell(0, 11, 0));
        due.is("behind it", -12, x.cell(0, 12, 0));
    }

    private static void whateverItWas() {
        due.sentence("A SHEET becomes that: missing or not, of whatever size and sort");
        for (int sort = -1; sort < 3; sort++) {
            for (int size = 0; size <= 40; size += 20) {
                WellGivesOther x = Wells.of(0, 0);
                x.sheet(0, sort, size);
                due.is("film", 12, x.film(0, 0));
                tellsSo(x, 0, 1, 0, 0, 0, 0, 0, 0, 0, 0, 0, 0, 0);
                due.is("of bytes", 0, x.askers(0, 0, 0, 0));
                due.is("behind the last", -12, x.cell(0, 12, 0));
            }
        }
    }

    private static void now() {
        due.sentence("now: each as if none had been asked ahead");
        WellGivesOther x = Wells.of(5, 0);
        x.set(3, 0, Wells.set(0, 1));
        x.set(2, 0, Wells.set(4));
        x.like(2, 5, 1);
        x.set(0, 0, 1);
        due.is("film", 12, x.film(0, 0));
        // Of 2, 3, 5 .. 11 the second that is neither asked for nor LIKE it.
        tellsSo(x, 0, 3, 3, 6, 5, 3, 6, 3, 3, 3, 3, 3, 3);
        x.day();
        x.film(0, 0);
        tellsSo(x, 0, 5, 5, 7, 6, 5, 7, 5, 5, 5, 5, 5, 5);
    }

    private static void anySheet() {
        due.sentence("SHEETS 0 .. 3, and that one alone");
        for (int sheet = 0; sheet < 4; sheet++) {
            WellGivesOther x = Wells.of(0, 0);
            due.is("film", 12, x.film(sheet, 0));
            for (int other = 0; other < 4; other++) due.is("cell of " + other, other == sheet ? 1 : -11, x.cell(other, 11, 5));
        }
    }

    private static void nothingElse() {
        due.sentence("nothing but the SHEET is otherwise");
        WellGivesOther x = Wells.lively();
        x.film(3, 1);
        x.film(3, 3);
        x.sheet(3, -1, 0);
        due.isTrue("all else", Wells.story(x).equals(Wells.story(Wells.lively())));
    }

    private static void badSheet() {
        due.sentence("BAD: SHEET");
        due.refused(-2, x -> x.film(4, 0), x -> x.film(-1, 0), x -> x.film(MIN, 0), x -> x.film(MAX, 0));
    }

    private static void badOne() {
        due.sentence("BAD: none such: the SHEET stays");
        due.refused(-2, x -> x.film(0, 4), x -> x.film(0, -1), x -> x.film(1, 5), x -> x.film(3, 4), x -> x.film(0, MIN), x -> x.film(0, MAX));
    }
}
