/** Promise 16: gladdest. */
public final class Promise16Test {
    private static final Due due = new Due("promise 16, gladdest");
    private static final int MIN = Integer.MIN_VALUE, MAX = Integer.MAX_VALUE;

    public static void main(String[] args) {
        gladdestOfWhatIsGiven();
        oneToThree();
        fewestFirst();
        leastAsBits();
        nothingGiven();
        none();
        below0();
        atTheBounds();
        asGlad();
        now();
        inThought();
        noneSuch();
        badWhat();
        due.end();
    }

    private static void gladdest(WellGivesOther x, int one, int set, int glad) {
        due.is("gladdest(" + one + ", 0)", set, x.gladdest(one, 0));
        due.is("gladdest(" + one + ", 1)", glad, x.gladdest(one, 1));
    }

    private static void gladdestOfWhatIsGiven() {
        due.sentence("by asking for which one would be gladdest of what is given (what 0; bits), how GLAD (1)");
        // An ASKER gets the first that is OPEN: 3 by 0, 1, 2.
        gladdest(Wells.of(0), 0, Wells.set(0, 1, 2), 3);
        // A TWIN gets the last: 11 by any but 11.
        gladdest(Wells.of(2), 0, Wells.set(0), 11);
        WellGivesOther x = Wells.of(2);
        Wells.rule(x, "gives 0;glads 20-thing;costs 0;");
        gladdest(x, 0, Wells.set(9, 10, 11), 12);
    }

    private static void oneToThree() {
        due.sentence("of all sets of 1 to 3 THINGS");
        String[] glads = {"thing=1", "thing=2", "thing=3"};
        int[] sets = {Wells.set(0), Wells.set(0, 1), Wells.set(0, 1, 2)};
        for (int i = 0; i < 3; i++) {
            WellGivesOther x = Wells.of(0);
            Wells.rule(x, "gives 0;glads " + glads[i] + ";costs 0;");
            gladdest(x, 0, sets[i], 1);
        }
        WellGivesOther x = Wells.of(0);
        Wells.rule(x, "gives 0;glads (thing=4)*50+thing;costs 0;");
        gladdest(x, 0, Wells.set(0, 1, 2), 3);
        due.sentence("of sets of 1 to 3: also the greatest of them");
        WellGivesOther y = Wells.of(2);
        y.set(2, 0, Wells.set(0, 1, 2, 3, 4, 5, 6, 7));
        Wells.rule(y, "gives 0;glads 0-thing;costs 0;");
        gladdest(y, 0, Wells.set(9, 10, 11), -8);
    }

    private static void fewestFirst() {
        due.sentence("of like ones the first: fewest THINGS");
        WellGivesOther x = Wells.of(0);
        x.set(2, 0, 4095 & ~Wells.set(0, 1, 2));
        x.like(11, 0, 1);
        x.like(11, 1, 1);
        // 2 by 11 alone, though 0, 1 would be less as bits.
        gladdest(x, 0, Wells.set(11), 2);
        WellGivesOther y = Wells.of(0);
        y.set(2, 0, 4095 & ~Wells.set(0, 1, 2, 3));
        y.like(11, 0, 1);
        y.like(11, 1, 1);
        // 3 by 2, 11, though 0, 1, 2 would be less as bits.
        gladdest(y, 0, Wells.set(2, 11), 3);
    }

    private static void leastAsBits() {
        due.sentence("of like ones the first: then the least as bits");
        WellGivesOther x = Wells.of(1);
        // Half of 2 by 0, 1 is half of 3 by 0, 1, 2, and of 2 words that is the least.
        gladdest(x, 0, Wells.set(0, 1), 1);
        WellGivesOther y = Wells.of(5);
        gladdest(y, 0, Wells.set(0), 9);
        y.set(2, 0, 4095 & ~Wells.set(0));
        gladdest(y, 0, Wells.set(1), 9);
        WellGivesOther z = Wells.of(0);
        z.set(2, 0, 4095 & ~Wells.set(0, 1, 2));
        z.like(0, 4, 1);
        z.like(1, 3, 1);
        // 2 by 0 or 4, and 1 or 3.
        gladdest(z, 0, Wells.set(0, 1), 2);
    }

    private static void nothingGiven() {
        due.sentence("nothing given: none such");
        WellGivesOther x = Wells.of(0);
        x.set(2, 0, 4095 & ~Wells.set(0, 1));
        Wells.rule(x, "gives 0;glads 0-50-thing;costs 0;");
        // By 0, 1 nothing is given, which is no 0.
        gladdest(x, 0, Wells.set(1), -50);
        x.set(2, 0, 4095 & ~Wells.set(0));
        gladdest(x, 0, Wells.set(1), -50);
    }

    private static void none() {
        due.sentence("NONE; how GLAD: -1000: none");
        for (int kind = 0; kind < 6; kind++) {
            if (kind == 3) continue;
            WellGivesOther x = Wells.of(kind);
            x.set(2, 0, 4095);
            gladdest(x, 0, -1, -1000);
        }
    }

    private static void below0() {
        due.sentence("how GLAD, also below 0");
        WellGivesOther x = Wells.of(0);
        Wells.rule(x, "gives 0;glads 0-thing-1;costs 0;");
        gladdest(x, 0, Wells.set(1), -1);
        WellGivesOther y = Wells.of(2);
        Wells.rule(y, "gives 0;glads 0-thing;costs 0;");
        gladdest(y, 0, Wells.set(9, 10, 11), -8);
    }

    private static void atTheBounds() {
        due.sentence("how GLAD: -99 .. 99");
        WellGivesOther x = Wells.of(0);
        Wells.rule(x, "gives 0;glads 98+thing;costs 0;");
        // 1 by 0, 2 by 0, 1 and 3 by 0, 1, 2 are 99 all.
        gladdest(x, 0, Wells.set(0), 99);
        Wells.rule(x, "gives 0;glads 0-999;costs 0;");
        gladdest(x, 0, Wells.set(0), -99);
    }

    private static void asGlad() {
        due.sentence("how GLAD one is, and what is given, as to its KIND");
        int[] sets = {Wells.set(0, 1, 2), Wells.set(0, 1), Wells.set(0), Wells.set(0, 1, 2), Wells.set(0, 1, 2), Wells.set(0)};
        int[] glads = {3, 1, 11, 12, 6, 9};
        for (int kind = 0; kind < 6; kind++) {
            WellGivesOther x = new WellGivesOther();
            x.asker(kind, 7);
            gladdest(x, 0, sets[kind], glads[kind]);
        }
    }

    private static void now() {
        due.sentence("as to what is SHUT to one, and DAY, now");
        WellGivesOther x = Wells.of(0);
        x.set(2, 0, Wells.set(3, 4, 5));
        gladdest(x, 0, Wells.set(0, 1, 2), 6);
        x.set(0, 0, 8);
        // By 3, that is SHUT, nine are OPEN: the last is given.
        gladdest(x, 0, Wells.set(3), 11);
    }

    private static void inThought() {
        due.sentence("in thought");
        due.inThought(Wells.set(0), x -> x.gladdest(3, 0));
        due.inThought(11, x -> x.gladdest(3, 1));
    }

    private static void noneSuch() {
        due.sentence("-2000: none such");
        due.refused(-2000, x -> x.gladdest(4, 0), x -> x.gladdest(-1, 0), x -> x.gladdest(5, 1), x -> x.gladdest(MIN, 0), x -> x.gladdest(MAX, 1));
    }

    private static void badWhat() {
        due.sentence("-2000: what");
        due.refused(-2000, x -> x.gladdest(0, 2), x -> x.gladdest(0, -1), x -> x.gladdest(0, MIN), x -> x.gladdest(0, MAX));
    }
}
