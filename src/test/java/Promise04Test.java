/** Promise 4: asker. */
public final class Promise04Test {
    private static final Due due = new Due("promise 4, asker");
    private static final int MIN = Integer.MIN_VALUE, MAX = Integer.MAX_VALUE;

    public static void main(String[] args) {
        theNumber();
        kinds();
        numbers();
        asOneComes();
        badKind();
        badNumber();
        full();
        badAheadOfFull();
        due.end();
    }

    private static void theNumber() {
        due.sentence("One of ASKERS: the number; 5 at most, numbered from 0");
        WellGivesOther x = new WellGivesOther();
        for (int one = 0; one < 5; one++) {
            due.is("asker", one, x.asker(0, 0));
            due.is("count(0)", one + 1, x.count(0));
        }
    }

    private static void kinds() {
        due.sentence("KIND 0 .. 5");
        for (int kind = 0; kind < 6; kind++) {
            WellGivesOther x = Wells.of(0);
            due.is("asker of KIND " + kind, 1, x.asker(kind, 0));
            due.is("its KIND", kind, x.told(1, 5));
        }
    }

    private static void numbers() {
        due.sentence("NUMBER 0 .. 9");
        for (int number = 0; number < 10; number++) {
            WellGivesOther x = Wells.of(0);
            due.is("asker of NUMBER " + number, 1, x.asker(0, number));
            due.is("its NUMBER", number, x.told(1, 1));
        }
    }

    private static void asOneComes() {
        due.sentence("SHUT, HAD: none as one comes; SPENT: 0");
        WellGivesOther x = Wells.of(0);
        for (int what = 2; what < 5; what++) x.set(what, 0, 9);
        x.asker(1, 1);
        for (int what = 2; what < 5; what++) due.is("told(1, " + what + ")", 0, x.told(1, what));
        due.sentence("SHUT, HAD: none as one comes where another went; SPENT: 0");
        WellGivesOther y = new WellGivesOther();
        y.image();
        y.asker(0, 1);
        for (int what = 2; what < 5; what++) y.set(what, 0, 9);
        y.back();
        due.is("asker", 0, y.asker(3, 2));
        int[] fresh = {0, 2, 0, 0, 0, 3};
        for (int what = 1; what < 6; what++) due.is("told(0, " + what + ")", fresh[what], y.told(0, what));
    }

    private static void badKind() {
        due.sentence("BAD: KIND");
        due.refused(-2, x -> x.asker(-1, 0), x -> x.asker(6, 0), x -> x.asker(MIN, 0), x -> x.asker(MAX, 0));
    }

    private static void badNumber() {
        due.sentence("BAD: NUMBER");
        due.refused(-2, x -> x.asker(0, -1), x -> x.asker(0, 10), x -> x.asker(5, MIN), x -> x.asker(5, MAX));
    }

    private static void full() {
        due.sentence("FULL: 5 at most");
        due.refusedBy(() -> Wells.of(0, 1, 2, 3, 4), -4, x -> x.asker(0, 0), x -> x.asker(5, 9));
    }

    private static void badAheadOfFull() {
        due.sentence("BAD ahead of FULL");
        due.refusedBy(() -> Wells.of(0, 1, 2, 3, 4), -2, x -> x.asker(6, 0), x -> x.asker(-1, 0), x -> x.asker(0, 10),
            x -> x.asker(0, -1));
    }
}
