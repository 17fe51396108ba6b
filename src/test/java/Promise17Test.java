/** Promise 17: get. */
public final class Promise17Test {
    private static final Due due = new Due("promise 17, get");
    private static final int MIN = Integer.MIN_VALUE, MAX = Integer.MAX_VALUE;

    public static void main(String[] args) {
        byWhichItIsGiven();
        oneToThree();
        costsLeast();
        fewestFirst();
        leastAsBits();
        costBounds();
        none();
        inThought();
        badOne();
        badThing();
        badWhat();
        due.end();
    }

    private static void get(WellGivesOther x, int thing, int set, int cost) {
        due.is("get(.., " + thing + ", 0)", set, x.get(0, thing, 0));
        due.is("get(.., " + thing + ", 1)", cost, x.get(0, thing, 1));
    }

    private static void byWhichItIsGiven() {
        due.sentence("by which it is given (what 0; bits), what it COSTS (1)");
        // An ASKER gets the first that is OPEN.
        get(Wells.of(0), 0, Wells.set(1), 1);
        get(Wells.of(0), 1, Wells.set(0), 1);
        get(Wells.of(0), 2, Wells.set(0, 1), 2);
        // A TWIN gets the last.
        get(Wells.of(2), 11, Wells.set(0), 1);
        get(Wells.of(2), 10, Wells.set(11), 1);
        get(Wells.of(2), 9, Wells.set(10, 11), 2);
    }

    private static void oneToThree() {
        due.sentence("of all sets of 1 to 3");
        get(Wells.of(0), 3, Wells.set(0, 1, 2), 3);
        get(Wells.of(2), 8, Wells.set(9, 10, 11), 3);
        get(Wells.of(0), 4, -1, -1);
        get(Wells.of(2), 7, -1, -1);
    }

    private static void costsLeast() {
        due.sentence("that which COSTS least");
        WellGivesOther x = Wells.of(0);
        Wells.rule(x, "gives 0;glads 0;costs 9-words;");
        get(x, 0, Wells.set(1, 2, 3), 6);
        get(x, 1, Wells.set(0, 2, 3), 6);
        get(x, 3, Wells.set(0, 1, 2), 6);
        Wells.rule(x, "gives 0;glads 0;costs not words=2;");
        get(x, 0, Wells.set(1, 2), 0);
        get(x, 3, Wells.set(0, 1, 2), 1);
    }

    private static void fewestFirst() {
        due.sentence("of like ones the first: fewest THINGS");
        WellGivesOther x = Wells.of(0);
        Wells.rule(x, "gives 0;glads 0;costs 5;");
        get(x, 0, Wells.set(1), 5);
        x.set(2, 0, 4095 & ~Wells.set(0, 1, 2));
        x.like(11, 0, 1);
        x.like(11, 1, 1);
        // 2 by 11 alone, though 0, 1 would be less as bits.
        get(x, 2, Wells.set(11), 5);
    }

    private static void leastAsBits() {
        due.sentence("of like ones the first: then the least as bits");
        WellGivesOther x = Wells.of(0);
        x.set(2, 0, 4095 & ~Wells.set(0, 1, 2));
        x.like(0, 4, 1);
        x.like(1, 3, 1);
        // 2 by 0 or 4, and 1 or 3.
        get(x, 2, Wells.set(0, 1), 2);
        // 1 by 0 or 4.
        get(x, 1, Wells.set(0), 1);
        // 0 by any but 0 and 4.
        get(x, 0, Wells.set(1), 1);
    }

    private static void costBounds() {
        due.sentence("what it COSTS: 0 .. 99, else the bound; those that are like then are like ones");
        WellGivesOther x = Wells.of(0);
        Wells.rule(x, "gives 0;glads 0;costs 0-words;");
        get(x, 0, Wells.set(1), 0);
        Wells.rule(x, "gives 0;glads 0;costs 102-words;");
        // 101 and 100 are 99, as is 99.
        get(x, 0, Wells.set(1), 99);
        get(x, 2, Wells.set(0, 1), 99);
    }

    private static void none() {
        due.sentence("NONE: there is none");
        WellGivesOther x = Wells.of(0);
        x.set(2, 0, Wells.set(1));
        get(x, 1, -1, -1);
        x.set(2, 0, 4095);
        for (int thing = 0; thing < 12; thing++) get(x, thing, -1, -1);
    }

    private static void inThought() {
        due.sentence("in thought");
        due.inThought(Wells.set(0), x -> x.get(3, 11, 0));
        due.inThought(1, x -> x.get(3, 11, 1));
    }

    private static void badOne() {
        due.sentence("BAD: no such one of ASKERS");
        due.refused(-2, x -> x.get(4, 0, 0), x -> x.get(-1, 0, 0), x -> x.get(5, 0, 1), x -> x.get(MIN, 0, 0), x -> x.get(MAX, 0, 0));
    }

    private static void badThing() {
        due.sentence("BAD: no such THING");
        due.refused(-2, x -> x.get(0, 12, 0), x -> x.get(0, -1, 0), x -> x.get(0, 12, 1), x -> x.get(0, -1, 1), x -> x.get(0, MIN, 0),
            x -> x.get(0, MAX, 0));
        due.sentence("BAD: no such THING, though nothing is given by any set");
        WellGivesOther x = Wells.of(0);
        x.set(2, 0, 4095);
        due.is("get(0, -1, 0)", -2, x.get(0, -1, 0));
        due.is("get(0, -1, 1)", -2, x.get(0, -1, 1));
    }

    private static void badWhat() {
        due.sentence("BAD: what; also where there is none");
        due.refused(-2, x -> x.get(0, 0, 2), x -> x.get(0, 0, -1), x -> x.get(0, 6, 2), x -> x.get(0, 0, MIN), x -> x.get(0, 0, MAX));
    }
}
