/** Promise 32: taken. */
public final class Promise32Test {
    private static final Due due = new Due("promise 32, taken");
    private static final int MIN = Integer.MIN_VALUE, MAX = Integer.MAX_VALUE;
    private static final String[] KINDS = {"ASKER", "CLERK", "TWIN", "BISHOP", "GREEDY", "OLD"};

    public static void main(String[] args) {
        ofThatKind();
        under();
        unlike();
        ofThatOne();
        inThought();
        badKind();
        noneSuch();
        order();
        due.end();
    }

    private static int taken(int kind, int k) {
        WellGivesOther x = new WellGivesOther();
        x.asker((kind + 1) % 6, 3);
        x.asker(kind, 8);
        return x.taken(1, k);
    }

    private static void ofThatKind() {
        due.sentence("One of ASKERS taken for one of KIND k: the NUMBER");
        for (int kind = 0; kind < 6; kind++) due.is(KINDS[kind], 8, taken(kind, kind));
    }

    private static void under() {
        due.sentence("or one under that one: 1 CLERK, 2 TWIN, 5 OLD under ASKER, 3 BISHOP under CLERK, 4 GREEDY under TWIN");
        int[][] under = {{1, 0}, {2, 0}, {5, 0}, {3, 1}, {4, 2}};
        for (int[] u : under) due.is(KINDS[u[0]] + " for " + KINDS[u[1]], 8, taken(u[0], u[1]));
        due.sentence("also by others between: BISHOP, GREEDY under ASKER");
        due.is("BISHOP for ASKER", 8, taken(3, 0));
        due.is("GREEDY for ASKER", 8, taken(4, 0));
    }

    private static void unlike() {
        due.sentence("-13: a thing of another KIND, not under that one");
        int[][] not = {{1, 2, 3, 4, 5}, {2, 3, 4, 5}, {1, 3, 4, 5}, {2, 4, 5}, {1, 3, 5}, {1, 2, 3, 4}};
        for (int kind = 0; kind < 6; kind++) {
            for (int k : not[kind]) due.is(KINDS[kind] + " for " + KINDS[k], -13, taken(kind, k));
        }
    }

    private static void ofThatOne() {
        due.sentence("the NUMBER, of that one, now");
        WellGivesOther x = new WellGivesOther();
        for (int one = 0; one < 5; one++) x.asker(5 - one, 9 - one);
        for (int one = 0; one < 5; one++) due.is("taken(" + one + ", 0)", 9 - one, x.taken(one, 0));
        x.set(1, 2, 0);
        due.is("set", 0, x.taken(2, 0));
    }

    private static void inThought() {
        due.sentence("in thought");
        due.inThought(3, x -> x.taken(0, 0));
        due.inThought(-13, x -> x.taken(0, 5));
    }

    private static void badKind() {
        due.sentence("BAD: k is none of 0 .. 5");
        due.refused(-2, x -> x.taken(0, 6), x -> x.taken(0, -1), x -> x.taken(0, MIN), x -> x.taken(0, MAX));
    }

    private static void noneSuch() {
        due.sentence("-11: none such");
        for (int kind = 0; kind < 6; kind++) {
            int k = kind;
            due.refused(-11, x -> x.taken(4, k), x -> x.taken(-1, k), x -> x.taken(5, k), x -> x.taken(MIN, k), x -> x.taken(MAX, k));
        }
    }

    private static void order() {
        due.sentence("BAD ahead of -11");
        due.refused(-2, x -> x.taken(4, 6), x -> x.taken(-1, -1), x -> x.taken(5, MAX));
    }
}
