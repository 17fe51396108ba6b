/** Promise 11: ask. */
public final class Promise11Test {
    private static final Due due = new Due("promise 11, ask");
    private static final int MIN = Integer.MIN_VALUE, MAX = Integer.MAX_VALUE;

    public static void main(String[] args) {
        given();
        had();
        nothing();
        shut();
        spent();
        spentBound();
        toldAhead();
        nothingElse();
        sets();
        badNoSuch();
        badSet();
        due.end();
    }

    private static void told(WellGivesOther x, int one, int shut, int had, int spent) {
        due.is("SHUT", shut, x.told(one, 2));
        due.is("HAD", had, x.told(one, 3));
        due.is("SPENT", spent, x.told(one, 4));
    }

    private static void given() {
        due.sentence("what is given: as of asks()");
        // ASKER: of 2 .. 11 the third. CLERK: the first. TWIN: the last. BISHOP: the second. GREEDY, OLD: the third.
        int[] given = {4, 1, 11, 2, 4, 4};
        for (int kind = 0; kind < 6; kind++) {
            WellGivesOther x = new WellGivesOther();
            x.asker(kind, 1);
            x.like(0, 1, 1);
            x.set(0, 0, 2);
            due.is("asks of " + kind, given[kind], x.asks(0, 1, 1));
            due.is("ask of " + kind, given[kind], x.ask(0, 1));
        }
    }

    private static void had() {
        due.sentence("it is of what one HAD");
        for (int kind = 0; kind < 6; kind++) {
            WellGivesOther x = Wells.of(kind);
            x.set(3, 0, Wells.set(2, 3));
            int given = x.ask(0, 1);
            due.is("HAD", Wells.set(2, 3, given), x.told(0, 3));
        }
        due.sentence("it is of what one HAD, though it was");
        WellGivesOther x = Wells.of(0);
        due.is("first", 1, x.ask(0, 1));
        due.is("again", 1, x.ask(0, 1));
        due.is("HAD", 2, x.told(0, 3));
    }

    private static void nothing() {
        due.sentence("or nothing, if none is OPEN: NONE; HAD stays");
        WellGivesOther x = Wells.of(0);
        x.set(3, 0, 16);
        due.is("by all", -1, x.ask(0, 4095));
        due.is("HAD", 16, x.told(0, 3));
        due.sentence("nothing is given: it SHUTS and COSTS all the same");
        due.is("SHUT", 4095, x.told(0, 2));
        due.is("SPENT", 12, x.told(0, 4));
        due.is("by one, all are SHUT", -1, x.ask(0, 8));
        told(x, 0, 4095, 16, 13);
    }

    private static void shut() {
        due.sentence("then SHUT to one is what that SHUTS, too");
        int[] shut = {Wells.set(4, 9), Wells.set(4), Wells.set(3, 4, 5, 9), Wells.set(4), Wells.set(3, 4, 5, 9), 0};
        for (int kind = 0; kind < 6; kind++) {
            WellGivesOther x = Wells.of(kind, kind);
            x.like(3, 4, 1);
            x.like(4, 5, 1);
            x.set(2, 0, Wells.set(0, 9));
            x.ask(0, Wells.set(4, 9));
            due.is("to " + kind, shut[kind] | Wells.set(0, 9), x.told(0, 2));
            due.is("to another one", 0, x.told(1, 2));
        }
        due.sentence("what was asked is not OPEN to an ASKER any more");
        WellGivesOther x = Wells.of(0);
        due.is("by 1", 0, x.ask(0, 2));
        due.is("by 0", 2, x.ask(0, 1));
        due.is("by 2", 3, x.ask(0, 4));
    }

    private static void spent() {
        due.sentence("SPENT is as much more as it COSTS");
        WellGivesOther x = Wells.of(0, 0);
        x.set(4, 0, 100);
        x.ask(0, 7);
        due.is("SPENT", 103, x.told(0, 4));
        x.ask(0, 4095);
        due.is("SPENT", 115, x.told(0, 4));
        due.is("of another one", 0, x.told(1, 4));
    }

    private static void spentBound() {
        due.sentence("SPENT: 9999 at most");
        int[] ahead = {9899, 9900, 9901, 9998, 9999};
        int[] behind = {9998, 9999, 9999, 9999, 9999};
        for (int i = 0; i < ahead.length; i++) {
            WellGivesOther x = Wells.of(0);
            Wells.rule(x, "gives 0;glads 0;costs 99;");
            x.set(4, 0, ahead[i]);
            due.is("given", 1, x.ask(0, 1));
            due.is("SPENT behind " + ahead[i], behind[i], x.told(0, 4));
        }
    }

    private static void toldAhead() {
        due.sentence("all told ahead: what is given, by HAD as it was");
        WellGivesOther x = Wells.of(0);
        Wells.rule(x, "gives had;glads had;costs had+1;");
        due.is("had 0", 1, x.ask(0, 1));
        due.is("SPENT", 1, x.told(0, 4));
        due.is("had 1", 2, x.ask(0, 1));
        due.is("SPENT", 3, x.told(0, 4));
        due.is("had 2", 3, x.ask(0, 1));
        due.is("SPENT", 6, x.told(0, 4));
    }

    private static void nothingElse() {
        due.sentence("DAY, NUMBER, KIND and other ones stay");
        WellGivesOther x = Wells.of(0, 2, 5);
        x.set(0, 0, 7);
        x.set(1, 1, 8);
        x.ask(1, 6);
        due.is("DAY", 7, x.count(2));
        due.is("NUMBER", 8, x.told(1, 1));
        due.is("KIND", 2, x.told(1, 5));
        told(x, 0, 0, 0, 0);
        told(x, 2, 0, 0, 0);
    }

    private static void sets() {
        due.sentence("a set of one THING or more: 1 .. 4095");
        due.is("the least", 1, Wells.of(0).ask(0, 1));
        due.is("the greatest of one", 0, Wells.of(0).ask(0, 2048));
        due.is("all but one", 11, Wells.of(0).ask(0, 2047));
        due.is("all", -1, Wells.of(0).ask(0, 4095));
    }

    private static void badNoSuch() {
        due.sentence("BAD: no such one of ASKERS");
        due.refused(-2, x -> x.ask(4, 1), x -> x.ask(-1, 1), x -> x.ask(5, 1), x -> x.ask(MIN, 1), x -> x.ask(MAX, 1));
    }

    private static void badSet() {
        due.sentence("BAD: a set is none of 1 .. 4095");
        due.refused(-2, x -> x.ask(0, 0), x -> x.ask(0, 4096), x -> x.ask(0, -1), x -> x.ask(0, 4097), x -> x.ask(0, MIN), x -> x.ask(0, MAX));
    }
}
