/** Promise 20: share. */
public final class Promise20Test {
    private static final Due due = new Due("promise 20, share");
    private static final int MIN = Integer.MIN_VALUE, MAX = Integer.MAX_VALUE;
    private static final long NO = -4611686018427387904L;

    public static void main(String[] args) {
        lowestTerms();
        ofThatOne();
        whicheverThings();
        inThought();
        noneSuch();
        badPart();
        due.end();
    }

    private static void lowestTerms() {
        int[][] want = {{0, 1}, {1, 12}, {1, 6}, {1, 4}, {1, 3}, {5, 12}, {1, 2}, {7, 12}, {2, 3}, {3, 4}, {5, 6}, {11, 12}, {1, 1}};
        WellGivesOther x = Wells.of(0);
        for (int had = 0; had <= 12; had++) {
            due.sentence("part 0 above, 1 below the line, in lowest terms: " + had + " of 12");
            x.set(3, 0, (1 << had) - 1);
            due.is("above", want[had][0], x.share(0, 0));
            due.is("below", want[had][1], x.share(0, 1));
        }
    }

    private static void ofThatOne() {
        due.sentence("what one HAD");
        WellGivesOther x = Wells.of(0, 1, 2, 3, 4);
        for (int one = 0; one < 5; one++) x.set(3, one, (1 << one) - 1);
        long[] above = {0, 1, 1, 1, 1};
        long[] below = {1, 12, 6, 4, 3};
        for (int one = 0; one < 5; one++) {
            due.is("above of " + one, above[one], x.share(one, 0));
            due.is("below of " + one, below[one], x.share(one, 1));
        }
    }

    private static void whicheverThings() {
        due.sentence("how many THINGS, whichever");
        WellGivesOther x = Wells.of(0);
        x.set(3, 0, Wells.set(0, 5, 11));
        due.is("above", 1, x.share(0, 0));
        due.is("below", 4, x.share(0, 1));
    }

    private static void inThought() {
        due.sentence("in thought");
        due.inThought(1, x -> x.share(0, 0));
        due.inThought(6, x -> x.share(0, 1));
    }

    private static void noneSuch() {
        due.sentence("NO: none such");
        due.refused(NO, x -> x.share(4, 0), x -> x.share(-1, 0), x -> x.share(5, 1), x -> x.share(MIN, 1), x -> x.share(MAX, 0));
    }

    private static void badPart() {
        due.sentence("NO: part");
        due.refused(NO, x -> x.share(0, 2), x -> x.share(0, -1), x -> x.share(0, MIN), x -> x.share(0, MAX));
    }
}
