/** Promise 5: told. */
public final class Promise05Test {
    private static final Due due = new Due("promise 5, told");
    private static final int MIN = Integer.MIN_VALUE, MAX = Integer.MAX_VALUE;

    public static void main(String[] args) {
        dayOfWhomever();
        asOfSet();
        kind();
        never();
        neverNow();
        likes();
        badNoSuch();
        badThing();
        badWhat();
        due.end();
    }

    private static void dayOfWhomever() {
        due.sentence("What 0 as of set(): DAY; of does not matter");
        WellGivesOther x = new WellGivesOther();
        x.set(0, 0, 40);
        int[] ofs = {0, 1, -1, 5, 12, 99, MIN, MAX};
        for (int of : ofs) due.is("told(" + of + ", 0)", 40, x.told(of, 0));
        x.day();
        due.is("a DAY later", 41, x.told(0, 0));
    }

    private static void asOfSet() {
        due.sentence("What 1 .. 4 as of set(): NUMBER, SHUT, HAD, SPENT of one of ASKERS");
        WellGivesOther x = Wells.of(0, 0, 0, 0, 0);
        int[] most = {0, 9, 4095, 4095, 9999};
        for (int what = 1; what < 5; what++) {
            for (int one = 0; one < 5; one++) x.set(what, one, most[what] - one);
        }
        for (int what = 1; what < 5; what++) {
            for (int one = 0; one < 5; one++) due.is("told(" + one + ", " + what + ")", most[what] - one, x.told(one, what));
        }
    }

    private static void kind() {
        due.sentence("5 KIND");
        WellGivesOther x = Wells.of(5, 4, 3, 2, 1);
        for (int one = 0; one < 5; one++) due.is("told(" + one + ", 5)", 5 - one, x.told(one, 5));
        due.is("KIND 0", 0, Wells.of(0).told(0, 5));
    }

    private static void never() {
        due.sentence("6 NEVER: THINGS that no set of 1 to 3 gives");
        // A CLERK gets the first that is OPEN: three words leave none ahead of THING 3, only four would none ahead of 4.
        due.is("of a CLERK", 0xff0, Wells.of(1).told(0, 6));
        WellGivesOther x = Wells.of(0);
        // By one word the fourth, of twelve, that is not of it: 3, 4; by two the seventh: 6, 7, 8; by three,
        // as nine are OPEN, the first: 0 .. 3; only by four 5.
        Wells.rule(x, "gives words*3;glads 0;costs 0;");
        due.is("by words", Wells.set(5, 9, 10, 11), x.told(0, 6));
    }

    private static void neverNow() {
        due.sentence("6 NEVER: now");
        WellGivesOther x = Wells.of(1, 0);
        x.set(2, 0, 15);
        due.is("0 .. 3 are SHUT", 0xf0f, x.told(0, 6));
        x.set(2, 0, 4095 & ~Wells.set(11));
        due.is("just 11 is OPEN", 0x7ff, x.told(0, 6));
        due.sentence("6 NEVER: all, if nothing is given by any");
        x.set(2, 0, 4095);
        due.is("all are SHUT", 4095, x.told(0, 6));
    }

    private static void likes() {
        due.sentence("7 what is LIKE a THING (bits)");
        WellGivesOther x = new WellGivesOther();
        for (int thing = 0; thing < 11; thing++) x.like(thing, 11, 1);
        for (int thing = 0; thing < 11; thing++) due.is("told(" + thing + ", 7)", 1 << 11, x.told(thing, 7));
        due.is("told(11, 7)", 2047, x.told(11, 7));
        due.sentence("7 is of a THING, whether one of ASKERS is such or not");
        x.asker(0, 0);
        due.is("told(0, 7)", 1 << 11, x.told(0, 7));
        due.is("told(1, 7)", 1 << 11, x.told(1, 7));
    }

    private static void badNoSuch() {
        due.sentence("BAD: no such one of ASKERS");
        for (int what = 1; what < 7; what++) {
            int w = what;
            due.refused(-2, x -> x.told(4, w), x -> x.told(-1, w), x -> x.told(5, w), x -> x.told(MIN, w), x -> x.told(MAX, w));
        }
    }

    private static void badThing() {
        due.sentence("BAD: no such THING");
        due.refused(-2, x -> x.told(12, 7), x -> x.told(-1, 7), x -> x.told(MIN, 7), x -> x.told(MAX, 7));
    }

    private static void badWhat() {
        due.sentence("BAD: what is none of 0 .. 7");
        due.refused(-2, x -> x.told(0, 8), x -> x.told(0, -1), x -> x.told(0, MIN), x -> x.told(0, MAX));
    }
}
