/** Promise 23: drawn. */
public final class Promise23Test {
    private static final Due due = new Due("promise 23, drawn");
    private static final int MIN = Integer.MIN_VALUE, MAX = Integer.MAX_VALUE;

    public static void main(String[] args) {
        asAskedTruly();
        dayByDay();
        byNone();
        upTo40();
        oneAsking();
        fromNow();
        inThought();
        noneSuch();
        badN();
        due.end();
    }

    /** The THING that is asked for by this many draws from a SEED on. */
    private static int drawnThing(int seed, int draws) {
        int z = seed;
        for (int i = 0; i < draws; i++) z = z * 1103515245 + 12345;
        return (z >>> 9) % 12;
    }

    private static void asAskedTruly() {
        due.sentence("n askings of one, for the THING (z >>> 9) % 12 alone, z anew for each, DAY 1 more behind each: how many one HAD then");
        int[] seeds = {0, 1, -1, 123456789, MIN, MAX};
        int[] ofKind = {0, 4, 3, 2, 1, 4};
        for (int kind = 0; kind < 6; kind++) {
            int one = ofKind[kind];
            for (int seed : seeds) {
                WellGivesOther x = Wells.lively();
                WellGivesOther y = Wells.lively();
                if (one == 4) {
                    x.asker(kind, 2);
                    y.asker(kind, 2);
                }
                for (int n = 0; n <= 40; n++) {
                    if (n % 4 == 0 || n < 7) due.is("drawn " + n, Integer.bitCount(y.told(one, 3)), x.drawn(seed, one, n));
                    y.ask(one, 1 << drawnThing(seed, n + 1));
                    y.day();
                }
            }
        }
    }

    /** On one DAY alone one gets what it had not: else 0 or 1, that it HAD. */
    private static WellGivesOther newThingOn(int day, int today) {
        WellGivesOther x = Wells.of(0);
        Wells.rule(x, "gives 2*(day=" + day + ");glads 0;costs 0;");
        x.set(0, 0, today);
        x.set(3, 0, Wells.set(0, 1));
        return x;
    }

    private static void dayByDay() {
        due.sentence("DAY 1 more behind each: the first is on this DAY");
        due.is("on DAY 5", 3, newThingOn(5, 5).drawn(3, 0, 1));
        due.is("on DAY 4", 2, newThingOn(5, 4).drawn(3, 0, 1));
        due.sentence("DAY 1 more behind each: the second is on the next");
        due.is("on DAYS 4, 5", 3, newThingOn(5, 4).drawn(3, 0, 2));
        due.is("on DAYS 3, 4", 2, newThingOn(5, 3).drawn(3, 0, 2));
        due.sentence("DAY 1 more behind each: in thought, behind 999 too");
        due.is("on DAYS 999, 1000", 3, newThingOn(1000, 999).drawn(3, 0, 2));
    }

    private static void byNone() {
        due.sentence("n askings (0): how many THINGS one HAD");
        WellGivesOther x = Wells.of(0);
        due.is("none", 0, x.drawn(77, 0, 0));
        x.set(3, 0, Wells.set(0, 5, 11));
        due.is("three", 3, x.drawn(77, 0, 0));
        x.set(3, 0, 4095);
        due.is("twelve", 12, x.drawn(77, 0, 0));
    }

    private static void upTo40() {
        due.sentence("n askings (.. 40)");
        WellGivesOther x = Wells.of(5);
        due.is("12 of 40", 12, x.drawn(7, 0, 40));
        due.is("12 of 39", 12, x.drawn(7, 0, 39));
    }

    private static void oneAsking() {
        due.sentence("SEED at first: z is told anew ahead of the first");
        for (int seed = -30; seed < 30; seed++) {
            WellGivesOther x = Wells.of(1);
            x.set(3, 0, Wells.set(1));
            // A CLERK gets 0, that it had not, by all but 0; 1, that it had, by 0.
            due.is("seed " + seed, drawnThing(seed, 1) == 0 ? 1 : 2, x.drawn(seed, 0, 1));
        }
    }

    private static void fromNow() {
        due.sentence("from what is SHUT to one, what one HAD, now");
        WellGivesOther x = Wells.of(0);
        x.set(2, 0, 4095);
        x.set(3, 0, 9);
        due.is("nothing is OPEN", 2, x.drawn(5, 0, 40));
        x.set(2, 0, 4095 & ~Wells.set(2));
        due.is("2 at most", 3, x.drawn(5, 0, 40));
    }

    private static void inThought() {
        due.sentence("in thought");
        due.inThought(2, x -> x.drawn(9, 0, 0));
        WellGivesOther x = Wells.lively();
        x.drawn(9, 0, 40);
        x.drawn(9, 1, 40);
        due.isTrue("all is as it was", Wells.story(x).equals(Wells.story(Wells.lively())));
    }

    private static void noneSuch() {
        due.sentence("BAD: none such");
        due.refused(-2, x -> x.drawn(0, 4, 1), x -> x.drawn(0, -1, 1), x -> x.drawn(0, 5, 0), x -> x.drawn(0, MIN, 1), x -> x.drawn(0, MAX, 1));
    }

    private static void badN() {
        due.sentence("BAD: n is none of 0 .. 40");
        due.refused(-2, x -> x.drawn(0, 0, 41), x -> x.drawn(0, 0, -1), x -> x.drawn(0, 0, MIN), x -> x.drawn(0, 0, MAX));
    }
}
