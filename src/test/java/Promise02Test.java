/** Promise 2: like. */
public final class Promise02Test {
    private static final Due due = new Due("promise 2, like");
    private static final int MIN = Integer.MIN_VALUE, MAX = Integer.MAX_VALUE;

    public static void main(String[] args) {
        on1();
        on0();
        asItWas();
        firstAndLast();
        justThatTwo();
        badNoSuch();
        badOneAndTheSame();
        badOn();
        due.end();
    }

    private static void on1() {
        due.sentence("Two THINGS are LIKE each other (on 1)");
        WellGivesOther x = new WellGivesOther();
        x.like(2, 7, 1);
        due.is("told(2, 7)", 1 << 7, x.told(2, 7));
        due.is("told(7, 7)", 1 << 2, x.told(7, 7));
        x.like(2, 7, 1);
        due.is("told(2, 7) as before", 1 << 7, x.told(2, 7));
    }

    private static void on0() {
        due.sentence("or not (0)");
        WellGivesOther x = new WellGivesOther();
        x.like(2, 7, 1);
        x.like(7, 2, 0);
        due.is("told(2, 7)", 0, x.told(2, 7));
        due.is("told(7, 7)", 0, x.told(7, 7));
        x.like(7, 2, 0);
        due.is("told(7, 7) as before", 0, x.told(7, 7));
    }

    private static void asItWas() {
        due.sentence("as it was");
        WellGivesOther x = new WellGivesOther();
        due.is("on", 0, x.like(4, 9, 1));
        due.is("on again", 1, x.like(4, 9, 1));
        due.is("on again, turned", 1, x.like(9, 4, 1));
        due.is("off", 1, x.like(9, 4, 0));
        due.is("off again", 0, x.like(9, 4, 0));
        due.is("on, turned", 0, x.like(9, 4, 1));
    }

    private static void firstAndLast() {
        due.sentence("THINGS 0 .. 11");
        for (int one = 0; one < 12; one++) {
            for (int other = 0; other < 12; other++) {
                if (one != other) due.is("like " + one + " " + other, 0, new WellGivesOther().like(one, other, 1));
            }
        }
    }

    private static void justThatTwo() {
        due.sentence("two THINGS, and no others");
        WellGivesOther x = new WellGivesOther();
        x.like(0, 1, 1);
        x.like(0, 11, 1);
        x.like(1, 11, 1);
        x.like(0, 11, 0);
        due.is("told(0, 7)", 1 << 1, x.told(0, 7));
        due.is("told(1, 7)", 1 | 1 << 11, x.told(1, 7));
        due.is("told(11, 7)", 1 << 1, x.told(11, 7));
        due.is("count(1)", 2, x.count(1));
    }

    private static void badNoSuch() {
        due.sentence("BAD: no such");
        due.refused(-2, x -> x.like(-1, 0, 1), x -> x.like(12, 0, 1), x -> x.like(0, -1, 1), x -> x.like(0, 12, 1),
            x -> x.like(MIN, 0, 1), x -> x.like(0, MAX, 1), x -> x.like(32, 1, 1), x -> x.like(12, 0, 0), x -> x.like(0, -1, 0));
    }

    private static void badOneAndTheSame() {
        due.sentence("BAD: one and the same");
        for (int thing = 0; thing < 12; thing++) {
            WellGivesOther x = new WellGivesOther();
            due.is("like itself " + thing, -2, x.like(thing, thing, 1));
            due.is("not like itself " + thing, -2, x.like(thing, thing, 0));
        }
        due.refused(-2, x -> x.like(5, 5, 1), x -> x.like(0, 0, 1), x -> x.like(11, 11, 1), x -> x.like(5, 5, 0));
    }

    private static void badOn() {
        due.sentence("BAD: on");
        due.refused(-2, x -> x.like(0, 1, 2), x -> x.like(0, 1, -1), x -> x.like(6, 8, 2), x -> x.like(6, 8, -1),
            x -> x.like(6, 8, 3), x -> x.like(6, 8, MIN), x -> x.like(6, 8, MAX));
    }
}
