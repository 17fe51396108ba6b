/** Promise 6: asks, with OPEN, PICKED, SHUTS and what asking COSTS. */
public final class Promise06Test {
    private static final Due due = new Due("promise 6, asks");
    private static final int MIN = Integer.MIN_VALUE, MAX = Integer.MAX_VALUE;
    private static final int ALL = 4095;
    private static final int ASKER = 0, CLERK = 1, TWIN = 2, BISHOP = 3, GREEDY = 4, OLD = 5;

    public static void main(String[] args) {
        notOfIt();
        likeNoneOfIt();
        likeOneOfItAtMost();
        notShut();
        whatTheNextOneHad();
        behindTheLastOne();
        ifThatIsAnother();
        likeAnyThatIsLikeAny();
        whatOneHad();
        pickedFirstAndLast();
        pickedByNumber();
        pickedByV();
        pickedBelow0();
        pickedOfOne();
        nothingIsGiven();
        shuts();
        bounds();
        names();
        sets();
        badNoSuch();
        badSet();
        badWhat();
        due.end();
    }

    private static int open(WellGivesOther x, int one, int... things) {
        return x.asks(one, Wells.set(things), 0);
    }

    private static void notOfIt() {
        due.sentence("OPEN: THINGS that are not of it");
        for (int kind = 0; kind < 6; kind++) {
            WellGivesOther x = Wells.of(kind);
            due.is("by 0", 4094, open(x, 0, 0));
            due.is("by 11", 2047, open(x, 0, 11));
            due.is("by 0, 5, 11", 2014, open(x, 0, 0, 5, 11));
            due.is("by all but 0", 1, x.asks(0, 4094, 0));
            due.is("by all", 0, x.asks(0, 4095, 0));
        }
    }

    /** 3 is LIKE 4 and 5, and 0 is LIKE 11. */
    private static WellGivesOther likes(int kind) {
        WellGivesOther x = Wells.of(kind);
        x.like(3, 4, 1);
        x.like(3, 5, 1);
        x.like(0, 11, 1);
        return x;
    }

    private static void likeNoneOfIt() {
        due.sentence("OPEN to an ASKER, a TWIN, a GREEDY, an OLD: LIKE none of it");
        int[] kinds = {ASKER, TWIN, GREEDY, OLD};
        for (int kind : kinds) {
            WellGivesOther x = likes(kind);
            due.is("3 by 4", 0, open(x, 0, 4) >> 3 & 1);
            due.is("3 by 4, 5", 0, open(x, 0, 4, 5) >> 3 & 1);
            due.is("3 by 4, 9", 0, open(x, 0, 4, 9) >> 3 & 1);
            due.is("4 by 3", 0, open(x, 0, 3) >> 4 & 1);
            due.is("11 by 0", 0, open(x, 0, 0) >> 11 & 1);
            due.is("0 by 11", 0, open(x, 0, 11) & 1);
            due.is("by 9", ALL & ~Wells.set(9), open(x, 0, 9));
            due.is("by 0", ALL & ~Wells.set(0, 11), open(x, 0, 0));
        }
    }

    private static void likeOneOfItAtMost() {
        due.sentence("OPEN to a CLERK, a BISHOP: LIKE one of it at most");
        int[] kinds = {CLERK, BISHOP};
        for (int kind : kinds) {
            WellGivesOther x = likes(kind);
            due.is("3 by 4", 1, open(x, 0, 4) >> 3 & 1);
            due.is("3 by 4, 9", 1, open(x, 0, 4, 9) >> 3 & 1);
            due.is("3 by 4, 5", 0, open(x, 0, 4, 5) >> 3 & 1);
            due.is("0 by 11", 1, open(x, 0, 11) & 1);
            x.like(3, 6, 1);
            due.is("3 by 4, 5, 6", 0, open(x, 0, 4, 5, 6) >> 3 & 1);
            due.is("by 4, 6", ALL & ~Wells.set(3, 4, 6), open(x, 0, 4, 6));
            // Whether what it is not LIKE stands behind, between or ahead.
            due.is("3 by 4, 5, 9", 0, open(x, 0, 4, 5, 9) >> 3 & 1);
            due.is("3 by 2, 4, 5", 0, open(x, 0, 2, 4, 5) >> 3 & 1);
            x.like(3, 5, 0);
            due.is("3 by 4, 5, 6, not LIKE 5", 0, open(x, 0, 4, 5, 6) >> 3 & 1);
            due.is("3 by 4, 5, not LIKE 5", 1, open(x, 0, 4, 5) >> 3 & 1);
        }
    }

    private static void notShut() {
        due.sentence("OPEN to all but a BISHOP: not SHUT");
        int[] kinds = {ASKER, CLERK, TWIN, GREEDY, OLD};
        for (int kind : kinds) {
            WellGivesOther x = Wells.of(kind, kind);
            x.set(2, 0, Wells.set(0, 6, 11));
            due.is("to " + kind, ALL & ~Wells.set(0, 3, 6, 11), open(x, 0, 3));
            due.is("to another one", ALL & ~Wells.set(3), open(x, 1, 3));
        }
        due.sentence("OPEN to a BISHOP: SHUT or not");
        WellGivesOther x = Wells.of(BISHOP);
        x.set(2, 0, ALL);
        due.is("to a BISHOP", ALL & ~Wells.set(3), open(x, 0, 3));
    }

    private static void whatTheNextOneHad() {
        due.sentence("OPEN to a TWIN, a GREEDY: what the next one HAD is not");
        for (int kind = 0; kind < 6; kind++) {
            WellGivesOther x = Wells.of(CLERK, kind, ASKER, CLERK);
            x.set(3, 0, Wells.set(0));
            x.set(3, 1, Wells.set(1));
            x.set(3, 2, Wells.set(2, 11));
            x.set(3, 3, Wells.set(4));
            int not = kind == TWIN || kind == GREEDY ? Wells.set(2, 11) : kind == OLD ? Wells.set(1) : 0;
            due.is("to " + kind, ALL & ~not & ~Wells.set(7), open(x, 1, 7));
        }
    }

    private static void behindTheLastOne() {
        due.sentence("OPEN to a TWIN, a GREEDY: behind the last one 0");
        int[] kinds = {TWIN, GREEDY};
        for (int kind : kinds) {
            for (int last = 1; last < 5; last++) {
                WellGivesOther x = new WellGivesOther();
                for (int one = 0; one <= last; one++) x.asker(kind, 0);
                x.set(3, 0, Wells.set(5, 8));
                x.set(3, last, Wells.set(6));
                due.is("to the last of " + (last + 1), ALL & ~Wells.set(5, 7, 8), open(x, last, 7));
            }
        }
    }

    private static void ifThatIsAnother() {
        due.sentence("OPEN to a TWIN, a GREEDY: what the next one HAD, if that is another one");
        int[] kinds = {TWIN, GREEDY};
        for (int kind : kinds) {
            WellGivesOther x = Wells.of(kind);
            x.set(3, 0, ALL);
            due.is("to one who is alone", ALL & ~Wells.set(7), open(x, 0, 7));
        }
    }

    private static void likeAnyThatIsLikeAny() {
        due.sentence("OPEN to a GREEDY: nor what is LIKE any that is LIKE any of it");
        for (int kind = 0; kind < 6; kind++) {
            WellGivesOther x = Wells.of(kind);
            // A row of likenesses: 2 3 4 5 6, and another: 0 11 10.
            for (int thing = 2; thing < 6; thing++) x.like(thing, thing + 1, 1);
            x.like(0, 11, 1);
            x.like(11, 10, 1);
            boolean clerk = kind == CLERK || kind == BISHOP;
            int like2 = clerk ? 0 : Wells.set(3);
            int like20 = clerk ? 0 : Wells.set(3, 11);
            int more2 = kind == GREEDY ? Wells.set(4) : 0;
            int more20 = kind == GREEDY ? Wells.set(4, 10) : 0;
            due.is("by 2 to " + kind, ALL & ~Wells.set(2) & ~like2 & ~more2, open(x, 0, 2));
            due.is("by 2, 0 to " + kind, ALL & ~Wells.set(2, 0) & ~like20 & ~more20, open(x, 0, 2, 0));
        }
    }

    private static void whatOneHad() {
        due.sentence("OPEN to an OLD: nor what one HAD");
        for (int kind = 0; kind < 6; kind++) {
            WellGivesOther x = Wells.of(kind);
            x.set(3, 0, Wells.set(0, 6, 11));
            due.is("to " + kind, ALL & ~Wells.set(3) & ~(kind == OLD ? Wells.set(0, 6, 11) : 0), open(x, 0, 3));
        }
    }

    private static void pickedFirstAndLast() {
        due.sentence("PICKED: CLERK: 0");
        WellGivesOther x = Wells.of(CLERK, TWIN, ASKER);
        for (int day = 0; day < 5; day++) {
            x.set(0, 0, day);
            due.is("by 3", 0, x.asks(0, Wells.set(3), 1));
            due.is("by 0, 1", 2, x.asks(0, Wells.set(0, 1), 1));
        }
        due.sentence("PICKED: TWIN: n less 1");
        for (int day = 0; day < 5; day++) {
            x.set(0, 0, day);
            due.is("by 3", 11, x.asks(1, Wells.set(3), 1));
            due.is("by 10, 11", 9, x.asks(1, Wells.set(10, 11), 1));
        }
        due.sentence("PICKED: GREEDY: as a TWIN, but as an ASKER, if DAY is even");
        WellGivesOther y = Wells.of(GREEDY);
        int[] days = {0, 1, 2, 3, 10, 11, 98, 99, 998, 999};
        int[] given = {1, 11, 3, 11, 11, 11, 11, 11, 1, 11};
        for (int i = 0; i < days.length; i++) {
            y.set(0, 0, days[i]);
            due.is("on day " + days[i], given[i], y.asks(0, 1, 1));
        }
    }

    private static void pickedByNumber() {
        due.sentence("PICKED: BISHOP: NUMBER modulo n");
        WellGivesOther x = Wells.of(BISHOP);
        for (int number = 0; number < 10; number++) {
            x.set(1, 0, number);
            due.is("NUMBER " + number + " of eleven", number + 1, x.asks(0, 1, 1));
            due.is("NUMBER " + number + " of three", number % 3, x.asks(0, ALL & ~7, 1));
            due.is("NUMBER " + number + " of one", 7, x.asks(0, ALL & ~Wells.set(7), 1));
        }
    }

    private static void pickedByV() {
        due.sentence("PICKED: ASKER: v modulo n; OLD: as an ASKER");
        int[] kinds = {ASKER, OLD};
        for (int kind : kinds) {
            WellGivesOther x = Wells.of(kind);
            int[] days = {0, 1, 10, 11, 12, 21, 22, 98, 99};
            for (int day : days) {
                x.set(0, 0, day);
                due.is("v " + day + " of eleven", day % 11 + 1, x.asks(0, 1, 1));
                due.is("v " + day + " of four", day % 4 + 5, x.asks(0, ALL & ~Wells.set(5, 6, 7, 8), 1));
            }
        }
    }

    private static void pickedBelow0() {
        due.sentence("PICKED: v modulo n is made 0 or more");
        int[] kinds = {ASKER, OLD, GREEDY};
        for (int kind : kinds) {
            WellGivesOther x = Wells.of(kind);
            Wells.rule(x, "gives 0-number;glads 0;costs 0;");
            for (int number = 0; number < 10; number++) {
                x.set(1, 0, number);
                due.is("v -" + number + " of eleven", (11 - number) % 11 + 1, x.asks(0, 1, 1));
                due.is("v -" + number + " of three", (9 - number) % 3, x.asks(0, ALL & ~7, 1));
            }
        }
    }

    private static void pickedOfOne() {
        due.sentence("PICKED of 1 that is OPEN: that");
        for (int kind = 0; kind < 6; kind++) {
            WellGivesOther x = Wells.of(kind);
            x.set(0, 0, 7);
            x.set(1, 0, 7);
            due.is("11 to " + kind, 11, x.asks(0, 2047, 1));
            due.is("0 to " + kind, 0, x.asks(0, 4094, 1));
        }
    }

    private static void nothingIsGiven() {
        due.sentence("what is given (1; NONE), if none is OPEN");
        for (int kind = 0; kind < 6; kind++) {
            WellGivesOther x = Wells.of(kind);
            due.is("by all to " + kind, -1, x.asks(0, 4095, 1));
            x.set(2, 0, 2048);
            due.is("by all that is not SHUT to " + kind, kind == BISHOP ? 11 : -1, x.asks(0, 2047, 1));
        }
    }

    private static void shuts() {
        String[] sentences = {"ASKER: all of it", "CLERK: the least of it", "TWIN: all of it, and whatever is LIKE any of it",
            "BISHOP: as a CLERK", "GREEDY: as a TWIN", "OLD: nothing"};
        int[] by49 = {Wells.set(4, 9), Wells.set(4), Wells.set(3, 4, 5, 9), Wells.set(4), Wells.set(3, 4, 5, 9), 0};
        int[] by11 = {2048, 2048, 2049, 2048, 2049, 0};
        int[] byAll = {ALL, 1, ALL, 1, ALL, 0};
        for (int kind = 0; kind < 6; kind++) {
            due.sentence("SHUTS: " + sentences[kind]);
            WellGivesOther x = Wells.of(kind);
            x.like(2, 3, 1);
            x.like(3, 4, 1);
            x.like(4, 5, 1);
            x.like(5, 6, 1);
            x.like(0, 11, 1);
            due.is("by 4, 9", by49[kind], x.asks(0, Wells.set(4, 9), 2));
            due.is("by 11", by11[kind], x.asks(0, 2048, 2));
            due.is("by all", byAll[kind], x.asks(0, ALL, 2));
            x.set(2, 0, Wells.set(1, 4, 5));
            due.is("by 4, 9, SHUT or not", by49[kind], x.asks(0, Wells.set(4, 9), 2));
        }
    }

    private static void bounds() {
        due.sentence("what it COSTS: costs (0 .. 99, else the bound)");
        WellGivesOther x = Wells.of(ASKER);
        Wells.rule(x, "gives 0;glads 0;costs day-500;");
        int[] days = {0, 400, 499, 500, 501, 598, 599, 600, 999};
        int[] costs = {0, 0, 0, 0, 1, 98, 99, 99, 99};
        for (int i = 0; i < days.length; i++) {
            x.set(0, 0, days[i]);
            due.is("costs " + (days[i] - 500), costs[i], x.asks(0, 1, 3));
        }
        due.sentence("what is given: gives (-99 .. 99, else the bound)");
        Wells.rule(x, "gives day-500;glads 0;costs 0;");
        int[] dues = {0, 400, 401, 402, 598, 599, 600, 999};
        // 99 modulo 10 is 9, 98 is 8, -99 is 1, -98 is 2: of 2 .. 11 that many from 0 on.
        int[] given = {3, 3, 3, 4, 10, 11, 11, 11};
        for (int i = 0; i < dues.length; i++) {
            x.set(0, 0, dues[i]);
            due.is("gives " + (dues[i] - 500), given[i], x.asks(0, 3, 1));
        }
    }

    private static void names() {
        due.sentence("words: of how many the set is; ways: of gives how many are OPEN; thing: else 0; number; day; had");
        String[] told = {"thing", "words", "ways", "number", "day", "had"};
        // By asking for 0, 1 seven are OPEN, as 7, 8, 9 are SHUT: the v-th, v modulo 7, from 0 on, is given.
        int[] things = {2, 3, 4, 5, 6, 10, 11};
        int[] gives = {0, 2, 7, 3, 5, 4};
        int[] costs = {0, 2, 0, 3, 5, 4};
        for (int i = 0; i < told.length; i++) {
            WellGivesOther x = Wells.of(ASKER, ASKER);
            x.set(0, 0, 5);
            x.set(1, 0, 3);
            x.set(1, 1, 8);
            x.set(2, 0, Wells.set(7, 8, 9));
            x.set(3, 0, Wells.set(0, 1, 10, 11));
            x.set(3, 1, Wells.set(5));
            Wells.rule(x, "gives " + told[i] + ";glads 0;costs " + told[i] + ";");
            due.is("gives " + told[i], things[gives[i] % 7], x.asks(0, 3, 1));
            due.is("costs " + told[i], costs[i], x.asks(0, 3, 3));
        }
        WellGivesOther y = Wells.of(ASKER);
        Wells.rule(y, "gives 3+thing;glads 0;costs 50+thing+ways;");
        due.is("of gives thing: 0", 4, y.asks(0, 1, 1));
        due.is("of costs thing, ways: 0", 50, y.asks(0, 1, 3));
        WellGivesOther z = Wells.of(ASKER);
        Wells.rule(z, "gives ways=4;glads 0;costs 0;");
        due.is("ways of five", 0, z.asks(0, ALL & ~31, 1));
        due.is("ways of four", 1, z.asks(0, ALL & ~15, 1));
    }

    private static void sets() {
        due.sentence("a set (1 .. 4095)");
        WellGivesOther x = Wells.of(ASKER);
        due.is("the least", 4094, x.asks(0, 1, 0));
        due.is("the greatest", 12, x.asks(0, 4095, 3));
    }

    private static void badNoSuch() {
        due.sentence("BAD: no such one of ASKERS");
        for (int what = 0; what < 4; what++) {
            int w = what;
            due.refused(-2, x -> x.asks(4, 1, w), x -> x.asks(-1, 1, w), x -> x.asks(5, 1, w), x -> x.asks(MIN, 1, w), x -> x.asks(MAX, 1, w));
        }
    }

    private static void badSet() {
        due.sentence("BAD: a set is none of 1 .. 4095");
        for (int what = 0; what < 4; what++) {
            int w = what;
            due.refused(-2, x -> x.asks(0, 0, w), x -> x.asks(0, 4096, w), x -> x.asks(0, -1, w), x -> x.asks(0, 4097, w),
                x -> x.asks(0, MIN, w), x -> x.asks(0, MAX, w));
        }
    }

    private static void badWhat() {
        due.sentence("BAD: what is none of 0 .. 3");
        due.refused(-2, x -> x.asks(0, 1, 4), x -> x.asks(0, 1, -1), x -> x.asks(0, 1, MIN), x -> x.asks(0, 1, MAX));
    }
}
