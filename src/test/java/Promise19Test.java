/** Promise 19: net. */
public final class Promise19Test {
    private static final Due due = new Due("promise 19, net");
    private static final int MIN = Integer.MIN_VALUE, MAX = Integer.MAX_VALUE;

    public static void main(String[] args) {
        cliques();
        near();
        firstOfLikeOnes();
        howManyAreLikeIt();
        twos();
        nothingIsLike();
        allAreLike();
        inThought();
        bad();
        due.end();
    }

    private static WellGivesOther likes(int... twos) {
        WellGivesOther x = new WellGivesOther();
        for (int i = 0; i < twos.length; i += 2) x.like(twos[i], twos[i + 1], 1);
        return x;
    }

    private static void cliques() {
        due.sentence("CLIQUES: sets of 3 THINGS each two of which are LIKE each other (what 0)");
        due.is("two of them", 0, likes(0, 1).net(0));
        due.is("one of them", 0, likes(0, 1, 1, 2).net(0));
        due.is("all of them", 1, likes(0, 1, 1, 2, 2, 0).net(0));
        due.is("the first and the last", 1, likes(0, 11, 11, 5, 5, 0).net(0));
        due.is("the last three", 1, likes(9, 10, 10, 11, 11, 9).net(0));
        due.is("two sets", 2, likes(0, 1, 1, 2, 2, 0, 9, 10, 10, 11, 11, 9).net(0));
        due.is("two sets with one two", 2, likes(0, 1, 1, 2, 2, 0, 1, 3, 3, 0).net(0));
        due.is("a ring of four", 0, likes(0, 1, 1, 2, 2, 3, 3, 0).net(0));
        due.is("four", 4, likes(0, 4, 0, 7, 0, 9, 4, 7, 4, 9, 7, 9).net(0));
    }

    private static void near() {
        due.sentence("NEAR: the THING that is LIKE most others (what 1)");
        due.is("7", 7, likes(7, 0, 7, 11).net(1));
        due.is("11", 11, likes(11, 0, 11, 1).net(1));
        due.is("0", 0, likes(0, 11, 0, 1).net(1));
        due.is("5 of three, 2 of two", 5, likes(2, 1, 2, 3, 5, 6, 5, 7, 5, 8).net(1));
        WellGivesOther x = likes(2, 1, 2, 3, 5, 6);
        due.is("2", 2, x.net(1));
        x.like(2, 1, 0);
        x.like(5, 8, 1);
        due.is("5 now", 5, x.net(1));
    }

    private static void firstOfLikeOnes() {
        due.sentence("NEAR: of like ones the first");
        due.is("4 and 9", 4, likes(9, 4).net(1));
        due.is("10 and 11", 10, likes(10, 11).net(1));
        due.is("3, 5, 7", 3, likes(3, 5, 5, 7, 7, 3).net(1));
        due.is("6 and 8 of two", 6, likes(8, 10, 8, 11, 6, 1, 6, 2).net(1));
    }

    private static void howManyAreLikeIt() {
        due.sentence("how many are LIKE it (2)");
        due.is("one", 1, likes(9, 4).net(2));
        due.is("two", 2, likes(7, 0, 7, 11).net(2));
        due.is("three", 3, likes(2, 1, 2, 3, 5, 6, 5, 7, 5, 8).net(2));
    }

    private static void twos() {
        due.sentence("twos that are LIKE each other (3)");
        due.is("one", 1, likes(0, 11).net(3));
        due.is("two", 2, likes(0, 11, 0, 1).net(3));
        due.is("five", 5, likes(2, 1, 2, 3, 5, 6, 5, 7, 5, 8).net(3));
        due.is("one again, turned", 1, likes(0, 11, 11, 0).net(3));
    }

    private static void nothingIsLike() {
        due.sentence("nothing is LIKE anything: 0, the first, 0, 0");
        for (int what = 0; what < 4; what++) due.is("net(" + what + ")", 0, new WellGivesOther().net(what));
    }

    private static void allAreLike() {
        due.sentence("all are LIKE each other: 220, the first, 11, 66");
        WellGivesOther x = new WellGivesOther();
        for (int one = 0; one < 12; one++) for (int other = 0; other < one; other++) x.like(one, other, 1);
        int[] all = {220, 0, 11, 66};
        for (int what = 0; what < 4; what++) due.is("net(" + what + ")", all[what], x.net(what));
    }

    private static void inThought() {
        due.sentence("in thought");
        int[] lively = {0, 0, 1, 2};
        for (int what = 0; what < 4; what++) {
            int w = what;
            due.inThought(lively[what], x -> x.net(w));
        }
    }

    private static void bad() {
        due.sentence("BAD: what is none of 0 .. 3");
        due.refused(-2, x -> x.net(4), x -> x.net(-1), x -> x.net(MIN), x -> x.net(MAX));
    }
}
