/** Promise 15: leave. */
public final class Promise15Test {
    private static final Due due = new Due("promise 15, leave");
    private static final int MIN = Integer.MIN_VALUE, MAX = Integer.MAX_VALUE;

    public static void main(String[] args) {
        justThatOneIsOpen();
        fewest();
        leastOfLikeOnes();
        anyNumberOfThings();
        toEachKind();
        none();
        inThought();
        badOne();
        badThing();
        badWhat();
        due.end();
    }

    private static void leave(WellGivesOther x, int one, int thing, int set, int size) {
        due.is("leave(.., " + thing + ", 0)", set, x.leave(one, thing, 0));
        due.is("leave(.., " + thing + ", 1)", size, x.leave(one, thing, 1));
    }

    private static void justThatOneIsOpen() {
        due.sentence("by asking for which just that one is OPEN");
        WellGivesOther x = Wells.of(0);
        for (int thing = 0; thing < 12; thing++) leave(x, 0, thing, 4095 & ~(1 << thing), 11);
    }

    /** 11 is LIKE 0 .. 4, 6 LIKE 7 and 8, 9 LIKE 10. */
    private static WellGivesOther likes() {
        WellGivesOther x = Wells.of(0);
        for (int thing = 0; thing < 5; thing++) x.like(11, thing, 1);
        x.like(6, 7, 1);
        x.like(6, 8, 1);
        x.like(9, 10, 1);
        return x;
    }

    private static void fewest() {
        due.sentence("LEAVE: the set of fewest THINGS");
        // 11 for 0 .. 4, 6 for 7 and 8, and one of 9 and 10.
        leave(likes(), 0, 5, Wells.set(6, 9, 11), 3);
        WellGivesOther x = Wells.of(0);
        x.set(2, 0, 4095 & ~Wells.set(0, 1, 2, 11));
        x.like(11, 1, 1);
        x.like(11, 2, 1);
        // 1, 2 would be less as bits.
        leave(x, 0, 0, Wells.set(11), 1);
    }

    private static void leastOfLikeOnes() {
        due.sentence("of like ones the least as bits");
        WellGivesOther x = Wells.of(0);
        x.set(2, 0, 4095 & ~Wells.set(5));
        leave(x, 0, 5, Wells.set(0), 1);
        x.set(2, 0, 4095 & ~Wells.set(0));
        leave(x, 0, 0, Wells.set(1), 1);
        WellGivesOther y = Wells.of(0);
        y.set(2, 0, 4095 & ~Wells.set(0, 1, 2));
        y.like(1, 5, 1);
        y.like(2, 9, 1);
        // 1 or 5, and 2 or 9.
        leave(y, 0, 0, Wells.set(1, 2), 2);
        leave(y, 0, 1, Wells.set(0, 2), 2);
    }

    private static void anyNumberOfThings() {
        due.sentence("a set of one THING or more, up to eleven");
        WellGivesOther x = Wells.of(0);
        for (int more = 1; more < 12; more++) {
            // The first more + 1 are OPEN: but one are asked for.
            x.set(2, 0, 4095 & ~((2 << more) - 1));
            leave(x, 0, 0, (2 << more) - 2, more);
            leave(x, 0, more, (1 << more) - 1, more);
        }
    }

    private static void toEachKind() {
        due.sentence("OPEN as to its KIND");
        WellGivesOther x = Wells.of(2, 0);
        x.set(3, 1, 4095 & ~Wells.set(3, 4));
        leave(x, 0, 4, Wells.set(3), 1);
        WellGivesOther old = Wells.of(5);
        old.set(3, 0, 4095 & ~Wells.set(3, 4));
        leave(old, 0, 3, Wells.set(4), 1);
        WellGivesOther bishop = Wells.of(3);
        bishop.set(2, 0, 4095);
        leave(bishop, 0, 0, 4094, 11);
        WellGivesOther greedy = Wells.of(4, 2);
        for (int thing = 0; thing < 10; thing++) greedy.like(11, thing, 1);
        leave(greedy, 0, 10, Wells.set(0), 1);
        leave(greedy, 1, 10, Wells.set(11), 1);
        WellGivesOther clerk = Wells.of(1);
        for (int thing = 2; thing < 11; thing++) clerk.like(0, thing, 1);
        for (int thing = 2; thing < 11; thing++) clerk.like(1, thing, 1);
        leave(clerk, 0, 11, 3, 2);
    }

    private static void none() {
        due.sentence("NONE: there is none");
        WellGivesOther x = Wells.of(0);
        x.set(2, 0, Wells.set(4));
        leave(x, 0, 4, -1, -1);
        x.set(2, 0, 4095);
        for (int thing = 0; thing < 12; thing++) leave(x, 0, thing, -1, -1);
    }

    private static void inThought() {
        due.sentence("in thought");
        due.inThought(Wells.set(0, 2, 3, 4, 7, 8, 9, 10), x -> x.leave(0, 11, 0));
    }

    private static void badOne() {
        due.sentence("BAD: no such one of ASKERS");
        due.refused(-2, x -> x.leave(4, 0, 0), x -> x.leave(-1, 0, 0), x -> x.leave(5, 0, 1), x -> x.leave(MIN, 0, 0), x -> x.leave(MAX, 0, 0));
    }

    private static void badThing() {
        due.sentence("BAD: no such THING");
        due.refused(-2, x -> x.leave(0, 12, 0), x -> x.leave(0, -1, 0), x -> x.leave(0, 12, 1), x -> x.leave(0, MIN, 0), x -> x.leave(0, MAX, 0));
    }

    private static void badWhat() {
        due.sentence("BAD: what; also where there is none");
        due.refused(-2, x -> x.leave(0, 0, 2), x -> x.leave(0, 0, -1), x -> x.leave(0, 6, 2), x -> x.leave(0, 0, MIN), x -> x.leave(0, 0, MAX));
    }
}
