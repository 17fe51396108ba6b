/** Promise 21: tells. */
public final class Promise21Test {
    private static final Due due = new Due("promise 21, tells");
    private static final int MIN = Integer.MIN_VALUE, MAX = Integer.MAX_VALUE;
    private static final int FIRST = 0, KINDS = 1, NUMBERS = 2, DAYS = 3, LEAST = 4, THINGS = 5, TEXTS = 6, ASKERS = 7;

    public static void main(String[] args) {
        firstOtherwise();
        noneOtherwise();
        nothingTold();
        upToTwelve();
        byNone();
        kinds();
        numbers();
        days();
        leastDay();
        noDay();
        firstAndLastDay();
        things();
        thingsThatAreShut();
        texts();
        allTexts();
        askers();
        ofEachSort();
        inThought();
        badSheet();
        badOne();
        badWhat();
        missing();
        moreThan12();
        order();
        due.end();
    }

    private static int tells(WellGivesOther x, int what, int... numbers) {
        Wells.fill(x, 0, numbers);
        return x.tells(0, 0, what);
    }

    private static WellGivesOther ruled(int kind, String gives) {
        WellGivesOther x = Wells.of(kind);
        Wells.rule(x, "gives " + gives + ";glads 0;costs 0;");
        return x;
    }

    private static void firstOtherwise() {
        due.sentence("the first that is otherwise (what 0)");
        // An ASKER gets the first that is OPEN: 1 by THING 0, 0 by all others.
        due.is("the first", 0, tells(Wells.of(0), FIRST, 0));
        due.is("the first, as the second", 0, tells(Wells.of(0), FIRST, 2, 2));
        due.is("the second", 1, tells(Wells.of(0), FIRST, 1, 1, 0, 0));
        due.is("the last of 12", 11, tells(Wells.of(0), FIRST, 1, 0, 0, 0, 0, 0, 0, 0, 0, 0, 0, 1));
        due.sentence("otherwise: also a number that is no THING");
        due.is("12", 0, tells(Wells.of(0), FIRST, 12));
        due.is("-2", 0, tells(Wells.of(0), FIRST, -2));
        due.is("257", 0, tells(Wells.of(0), FIRST, 257));
        due.is("MIN", 1, tells(Wells.of(0), FIRST, 1, MIN));
        due.is("MAX", 1, tells(Wells.of(0), FIRST, 1, MAX));
    }

    private static void noneOtherwise() {
        due.sentence("the first that is otherwise: NONE");
        due.is("one number", -1, tells(Wells.of(0), FIRST, 1));
        due.is("all twelve", -1, tells(Wells.of(0), FIRST, 1, 0, 0, 0, 0, 0, 0, 0, 0, 0, 0, 0));
        due.is("a TWIN's", -1, tells(Wells.of(2), FIRST, 11, 11, 11, 11, 11, 11, 11, 11, 11, 11, 11, 10));
        due.sentence("by asking for THING 0, 1, .. alone, each now");
        // Not one behind the other: 0 is given by 1, though it was by 2 as well; nothing is SHUT by that.
        due.is("an OLD's", -1, tells(Wells.of(5), FIRST, 1, 0, 0));
        WellGivesOther x = Wells.of(0);
        x.set(2, 0, Wells.set(0));
        due.is("now 0 is SHUT", -1, tells(x, FIRST, 1, 2, 1));
    }

    private static void nothingTold() {
        due.sentence("NONE: nothing");
        WellGivesOther x = Wells.of(0);
        x.set(2, 0, 4095 & ~Wells.set(1));
        due.is("nothing by 1", -1, tells(x, FIRST, 1, -1, 1));
        due.is("something by 1", 1, tells(x, FIRST, 1, 1, 1));
        due.is("nothing by 0", 0, tells(x, FIRST, -1, -1, 1));
    }

    private static void upToTwelve() {
        due.sentence("12 at most numbers");
        WellGivesOther x = Wells.of(3);
        for (int n = 1; n <= 12; n++) {
            x.sheet(0, 2, n);
            x.cell(0, 0, 1);
            due.is(n + " numbers", -1, x.tells(0, 0, FIRST));
            due.is(n + " numbers, KINDS", Wells.set(0, 1, 3, 4, 5), x.tells(0, 0, KINDS));
        }
    }

    private static void byNone() {
        due.sentence("by none: nothing is otherwise, all would be so");
        int[] want = {-1, 63, 1023, 100, 0, 4095, 3, 7};
        WellGivesOther x = Wells.of(0, 2, 5);
        Wells.read(x, "gives 1;glads 0;costs 0;");
        x.sheet(0, 2, 0);
        for (int what = 0; what < 8; what++) due.is("tells " + what, want[what], x.tells(0, 1, what));
    }

    private static void kinds() {
        due.sentence("KINDS (bits 0 .. 5) by which all would be so (1)");
        // DAY 3, NUMBER 5: by 0 of eleven ASKER, OLD get 4, CLERK 1, TWIN, GREEDY 11, BISHOP 6.
        int[] told = {4, 1, 11, 6, 2, -1};
        int[] want = {Wells.set(0, 5), Wells.set(1), Wells.set(2, 4), Wells.set(3), 0, 0};
        for (int kind = 0; kind < 6; kind++) {
            WellGivesOther x = new WellGivesOther();
            x.asker(kind, 5);
            x.set(0, 0, 3);
            for (int i = 0; i < told.length; i++) due.is(told[i] + " told of " + kind, want[i], tells(x, KINDS, told[i]));
            x.set(0, 0, 2);
            due.is("3 told of " + kind + " on an even DAY", Wells.set(0, 4, 5), tells(x, KINDS, 3));
            x.set(2, 0, 4095);
            due.is("nothing told of " + kind, Wells.set(0, 1, 2, 4, 5), tells(x, KINDS, -1));
        }
    }

    private static void numbers() {
        due.sentence("NUMBERS (bits 0 .. 9) by which all would be so (2)");
        for (int number = 0; number < 10; number++) {
            due.is("a BISHOP's " + number, 1 << number, tells(Wells.of(3), NUMBERS, number + 1));
            due.is("an ASKER's " + number, 1 << number, tells(ruled(0, "number"), NUMBERS, number + 1));
        }
        due.is("NUMBER 10 is none", 0, tells(Wells.of(3), NUMBERS, 11));
        due.is("all of them", 1023, tells(Wells.of(1), NUMBERS, 1));
        due.is("some of them", Wells.set(0, 1, 2), tells(ruled(0, "number<3"), NUMBERS, 2));
    }

    private static void days() {
        due.sentence("DAYS (of 0 .. 99): how many (3)");
        WellGivesOther x = Wells.of(0);
        x.set(0, 0, 500);
        // By 0 of eleven: each eleventh DAY from 3 on: 3, 14, .. 91; from 0 on 0, 11, .. 99.
        due.is("4 by 0", 9, tells(x, DAYS, 4));
        due.is("1 by 0", 10, tells(x, DAYS, 1));
        due.is("all of them", 100, tells(Wells.of(1), DAYS, 1));
        // A GREEDY's last on odd DAYS; on even ones 10, 32, .. 98.
        due.is("a GREEDY's 11 by 0", 55, tells(Wells.of(4), DAYS, 11));
        due.is("none of them", 0, tells(x, DAYS, 0));
    }

    private static void leastDay() {
        due.sentence("DAYS: the least (4)");
        WellGivesOther x = Wells.of(0);
        x.set(0, 0, 500);
        for (int day = 0; day < 11; day++) due.is("day " + day, day, tells(x, LEAST, day + 1));
        due.is("day 40", 40, tells(ruled(0, "39<day"), LEAST, 2));
    }

    private static void noDay() {
        due.sentence("DAYS: the least: NONE");
        due.is("none", -1, tells(Wells.of(0), LEAST, 0));
        due.is("none but 100", -1, tells(ruled(0, "day=100"), LEAST, 2));
        due.is("none from 100 on", -1, tells(ruled(0, "99<day"), LEAST, 2));
    }

    private static void firstAndLastDay() {
        due.sentence("DAYS of 0 .. 99: 0 is the first");
        due.is("how many", 1, tells(ruled(0, "day=0"), DAYS, 2));
        due.is("the least", 0, tells(ruled(0, "day=0"), LEAST, 2));
        due.sentence("DAYS of 0 .. 99: 99 is the last");
        due.is("how many", 1, tells(ruled(0, "day=99"), DAYS, 2));
        due.is("the least", 99, tells(ruled(0, "day=99"), LEAST, 2));
        due.sentence("DAYS of 0 .. 99: 100 is none, though it is today");
        WellGivesOther x = ruled(0, "day=100");
        x.set(0, 0, 100);
        due.is("it is so today", -1, tells(x, FIRST, 2));
        due.is("how many", 0, tells(x, DAYS, 2));
        due.is("the least", -1, tells(x, LEAST, 2));
    }

    private static void things() {
        due.sentence("THINGS (bits) such that, were just that one SHUT to one now, all would be so (5)");
        WellGivesOther x = Wells.of(0);
        // 1 by 0: were 1 SHUT, it would be 2.
        due.is("1 by 0", 4095 & ~Wells.set(1), tells(x, THINGS, 1));
        due.is("2 by 0", Wells.set(1), tells(x, THINGS, 2));
        due.is("3 by 0", 0, tells(x, THINGS, 3));
        due.is("1 by 0, 2 by 1", Wells.set(0), tells(x, THINGS, 1, 2));
        due.is("a TWIN's 10 by 0", Wells.set(11), tells(Wells.of(2), THINGS, 10));
        due.is("a BISHOP's: SHUT or not", 4095, tells(Wells.of(3), THINGS, 1));
    }

    private static void thingsThatAreShut() {
        due.sentence("THINGS such that, were just that one not SHUT, if it is, all would be so (5)");
        WellGivesOther x = Wells.of(0);
        x.set(2, 0, Wells.set(1, 2));
        // 3 by 0: were 1 or 2 OPEN, that; were 3 SHUT, 4.
        due.is("3 by 0", 4095 & ~Wells.set(1, 2, 3), tells(x, THINGS, 3));
        due.is("1 by 0", Wells.set(1), tells(x, THINGS, 1));
        due.is("2 by 0", Wells.set(2), tells(x, THINGS, 2));
        due.is("4 by 0", Wells.set(3), tells(x, THINGS, 4));
        due.sentence("THINGS: one by one, and each only as long as it is thought of");
        x.set(2, 0, Wells.set(1, 11));
        due.is("1 by 0", Wells.set(1), tells(x, THINGS, 1));
        due.is("2 by 0", 4095 & ~Wells.set(1, 2), tells(x, THINGS, 2));
        WellGivesOther y = Wells.of(0);
        y.set(2, 0, 4095);
        due.is("nothing by 0, all SHUT", Wells.set(0), tells(y, THINGS, -1));
        due.is("11 by 0, all SHUT", Wells.set(11), tells(y, THINGS, 11));
    }

    private static void texts() {
        due.sentence("TEXTS (bits), were they THE RULE, by which all would be so (6)");
        WellGivesOther x = Wells.of(0);
        Wells.read(x, "gives 1;glads 0;costs 0;");
        Wells.read(x, "gives 2;glads 0;costs 0;");
        Wells.read(x, "gives 12;glads 0;costs 0;");
        for (int rule = 0; rule < 4; rule++) {
            x.force(rule);
            due.is("1 by 0", Wells.set(0), tells(x, TEXTS, 1));
            due.is("2 by 0", Wells.set(1, 3), tells(x, TEXTS, 2));
            due.is("3 by 0", Wells.set(2), tells(x, TEXTS, 3));
            due.is("4 by 0", 0, tells(x, TEXTS, 4));
        }
        due.sentence("TEXTS: of those that there are");
        due.is("TEXT 0 alone", 1, tells(Wells.of(1), TEXTS, 1));
    }

    private static void allTexts() {
        due.sentence("TEXTS: all 6");
        WellGivesOther x = Wells.of(0);
        for (int text = 1; text < 6; text++) Wells.read(x, "gives " + text % 5 + ";glads 0;costs 0;");
        due.is("1 by 0", Wells.set(0, 5), tells(x, TEXTS, 1));
        due.is("5 by 0", Wells.set(4), tells(x, TEXTS, 5));
        WellGivesOther y = Wells.of(1);
        for (int text = 1; text < 6; text++) Wells.read(y, "gives 1;glads 0;costs 0;");
        due.is("a CLERK's", 63, tells(y, TEXTS, 1));
    }

    private static void askers() {
        due.sentence("ASKERS (bits) of whom it is so (7)");
        WellGivesOther x = Wells.of(0, 1, 2, 5, 0);
        x.set(2, 4, Wells.set(1));
        Wells.fill(x, 0, 1);
        for (int one = 0; one < 5; one++) due.is("1 by 0, of " + one, Wells.set(0, 1, 3), x.tells(0, one, ASKERS));
        Wells.fill(x, 0, 11);
        due.is("11 by 0", Wells.set(2), x.tells(0, 0, ASKERS));
        Wells.fill(x, 0, 2);
        due.is("2 by 0", Wells.set(4), x.tells(0, 0, ASKERS));
        Wells.fill(x, 0, 3);
        due.is("3 by 0", 0, x.tells(0, 0, ASKERS));
        due.sentence("ASKERS: of those that there are");
        due.is("alone", 1, tells(Wells.of(1), ASKERS, 1));
        due.sentence("ASKERS: a TWIN's next one is that one's own");
        WellGivesOther y = Wells.of(2, 2, 2);
        y.set(3, 1, Wells.set(11));
        due.is("10 by 0", Wells.set(0), tells(y, ASKERS, 10));
        due.is("11 by 0", Wells.set(1, 2), tells(y, ASKERS, 11));
    }

    private static void ofEachSort() {
        due.sentence("a SHEET of bytes, shorts, ints tells: also nothing");
        for (int sort = 0; sort < 3; sort++) {
            WellGivesOther x = Wells.of(0);
            x.set(2, 0, 4095 & ~Wells.set(11));
            Wells.fillOf(x, 3, sort, 11, 11, 11, 11, 11, 11, 11, 11, 11, 11, 11, -1);
            due.is("of sort " + sort, -1, x.tells(3, 0, FIRST));
        }
    }

    private static void inThought() {
        due.sentence("in thought: what would be is not");
        // SHEET 0 tells 1, 2, 4, 8, what none is given.
        int[] want = {0, 0, 0, 0, -1, 0, 0, 0};
        for (int what = 0; what < 8; what++) {
            int w = what;
            due.inThought(want[what], x -> x.tells(0, 0, w));
        }
    }

    private static void badSheet() {
        due.sentence("BAD: SHEET");
        due.refused(-2, x -> x.tells(4, 0, 0), x -> x.tells(-1, 0, 0), x -> x.tells(MIN, 0, 7), x -> x.tells(MAX, 0, 7));
    }

    private static void badOne() {
        due.sentence("BAD: none such, also for ASKERS");
        due.refused(-2, x -> x.tells(0, 4, 0), x -> x.tells(0, -1, 0), x -> x.tells(0, 5, 7), x -> x.tells(0, 4, 7), x -> x.tells(0, MIN, 6),
            x -> x.tells(0, MAX, 3));
    }

    private static void badWhat() {
        due.sentence("BAD: what");
        due.refused(-2, x -> x.tells(0, 0, 8), x -> x.tells(0, 0, -1), x -> x.tells(0, 0, MIN), x -> x.tells(0, 0, MAX));
    }

    private static void missing() {
        due.sentence("-11: the SHEET is missing");
        for (int what = 0; what < 8; what++) {
            int w = what;
            due.refused(-11, x -> x.tells(3, 0, w));
        }
    }

    private static void moreThan12() {
        due.sentence("BAD: it tells more than 12");
        for (int what = 0; what < 8; what++) {
            int w = what;
            due.refused(-2, x -> x.tells(2, 0, w));
        }
        WellGivesOther x = Wells.of(0);
        x.sheet(0, 0, 13);
        due.is("13", -2, x.tells(0, 0, 0));
        x.sheet(0, 0, 40);
        due.is("40", -2, x.tells(0, 0, 0));
        x.sheet(0, 0, 12);
        due.is("12", 0, x.tells(0, 0, 0));
    }

    private static void order() {
        due.sentence("BAD: none such, what: ahead of -11");
        due.refused(-2, x -> x.tells(3, 4, 0), x -> x.tells(3, -1, 0), x -> x.tells(3, 0, 8), x -> x.tells(3, 0, -1));
    }
}
