/** Promise 24: chance. */
public final class Promise24Test {
    private static final Due due = new Due("promise 24, chance");
    private static final int MIN = Integer.MIN_VALUE, MAX = Integer.MAX_VALUE;
    private static final long NO = -4611686018427387904L;

    public static void main(String[] args) {
        inMSeeds();
        eachOneMore();
        wrapping();
        sixAskings();
        kOrMore();
        mFrom1To20();
        lowestTerms();
        inThought();
        badM();
        noneSuch();
        badK();
        badPart();
        due.end();
    }

    /** How many of the draws from these seeds on reach k. */
    private static int enough(WellGivesOther x, int seed, int m, int one, int k) {
        int enough = 0;
        for (int i = 0; i < m; i++) if (x.drawn(seed + i, one, 6) >= k) enough++;
        return enough;
    }

    private static void isPart(WellGivesOther x, int seed, int m, int one, int k) {
        int enough = enough(x, seed, m, one, k);
        long above = x.chance(seed, m, one, k, 0);
        long below = x.chance(seed, m, one, k, 1);
        due.is(enough + " of " + m, enough * below, m * above);
        due.isTrue(enough + " of " + m + " below the line", below >= 1 && below <= m);
    }

    private static void inMSeeds() {
        due.sentence("IN m seeds: of these those by which that is k or more");
        for (int kind = 0; kind < 6; kind++) {
            for (int k = 0; k <= 12; k++) isPart(Wells.of(kind, 0), 11, 7, 0, k);
        }
    }

    private static WellGivesOther scattered() {
        WellGivesOther x = Wells.of(0);
        Wells.rule(x, "gives had*5;glads 0;costs 0;");
        return x;
    }

    private static void eachOneMore() {
        due.sentence("SEED and each 1 more");
        int apart = 0;
        for (int seed = -20; seed < 20; seed++) {
            WellGivesOther x = scattered();
            int more = enough(x, seed, 3, 0, 5);
            due.is("by SEED " + seed, more == 3 ? 1 : more, x.chance(seed, 3, 0, 5, 0));
            if (more != enough(x, seed - 2, 3, 0, 5)) apart++;
        }
        due.isTrue("some are not as 1 less would be", apart > 0);
    }

    private static void wrapping() {
        due.sentence("SEED and each 1 more (an int)");
        for (int k = 0; k < 7; k++) isPart(scattered(), MAX - 3, 8, 0, k);
        for (int k = 0; k < 7; k++) isPart(scattered(), MAX, 2, 0, k);
        for (int k = 0; k < 7; k++) isPart(scattered(), MIN, 2, 0, k);
    }

    private static void sixAskings() {
        due.sentence("6 askings");
        WellGivesOther x = Wells.of(5);
        // An OLD gets another one each time.
        due.is("surely 6", 1, x.chance(1, 20, 0, 6, 0));
        due.is("surely 6", 1, x.chance(1, 20, 0, 6, 1));
        due.is("never 7", 0, x.chance(1, 20, 0, 7, 0));
        due.is("never 7", 1, x.chance(1, 20, 0, 7, 1));
    }

    private static void kOrMore() {
        due.sentence("k (0 .. 12) or more: with what one HAD ahead");
        WellGivesOther x = Wells.of(0);
        x.set(3, 0, 4095);
        x.set(2, 0, 4095);
        for (int k = 0; k <= 12; k++) due.is("all twelve, of " + k, 1, x.chance(1, 5, 0, k, 0));
        x.set(3, 0, 2047);
        due.is("eleven, of 11", 1, x.chance(1, 5, 0, 11, 0));
        due.is("eleven, of 12", 0, x.chance(1, 5, 0, 12, 0));
        x.set(3, 0, 0);
        due.is("none, of 0", 1, x.chance(1, 5, 0, 0, 0));
        due.is("none, of 1", 0, x.chance(1, 5, 0, 1, 0));
    }

    private static void mFrom1To20() {
        due.sentence("m seeds (1 .. 20)");
        for (int m = 1; m <= 20; m++) {
            for (int k = 3; k < 6; k++) isPart(scattered(), 100, m, 0, k);
        }
    }

    private static void lowestTerms() {
        due.sentence("part 0 above, 1 below the line, in lowest terms");
        for (int m = 1; m <= 20; m++) {
            for (int k = 3; k < 6; k++) {
                WellGivesOther x = scattered();
                long above = x.chance(7, m, 0, k, 0);
                long below = x.chance(7, m, 0, k, 1);
                for (int d = 2; d <= 20; d++) due.isTrue(above + " / " + below, above % d != 0 || below % d != 0);
            }
        }
        due.sentence("in lowest terms: 0 / 1, 1 / 1");
        WellGivesOther x = Wells.of(5);
        due.is("0 above", 0, x.chance(7, 20, 0, 7, 0));
        due.is("1 below", 1, x.chance(7, 20, 0, 7, 1));
        due.is("1 above", 1, x.chance(7, 20, 0, 6, 0));
        due.is("1 below", 1, x.chance(7, 20, 0, 6, 1));
    }

    private static void inThought() {
        due.sentence("in thought");
        due.inThought(1, x -> x.chance(3, 20, 0, 0, 0));
    }

    private static void badM() {
        due.sentence("NO: m is none of 1 .. 20");
        due.refused(NO, x -> x.chance(0, 0, 0, 0, 0), x -> x.chance(0, 21, 0, 0, 0), x -> x.chance(0, -1, 0, 0, 1),
            x -> x.chance(0, MIN, 0, 0, 0), x -> x.chance(0, MAX, 0, 0, 0));
    }

    private static void noneSuch() {
        due.sentence("NO: none such");
        due.refused(NO, x -> x.chance(0, 1, 4, 0, 0), x -> x.chance(0, 1, -1, 0, 0), x -> x.chance(0, 1, 5, 0, 1),
            x -> x.chance(0, 1, MIN, 0, 0), x -> x.chance(0, 1, MAX, 0, 0));
    }

    private static void badK() {
        due.sentence("NO: k is none of 0 .. 12");
        due.refused(NO, x -> x.chance(0, 1, 0, 13, 0), x -> x.chance(0, 1, 0, -1, 0), x -> x.chance(0, 1, 0, MIN, 0), x -> x.chance(0, 1, 0, MAX, 1));
    }

    private static void badPart() {
        due.sentence("NO: part");
        due.refused(NO, x -> x.chance(0, 1, 0, 0, 2), x -> x.chance(0, 1, 0, 0, -1), x -> x.chance(0, 1, 0, 0, MIN), x -> x.chance(0, 1, 0, 0, MAX));
    }
}
