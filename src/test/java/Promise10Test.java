/** Promise 10: force. */
public final class Promise10Test {
    private static final Due due = new Due("promise 10, force");
    private static final int MIN = Integer.MIN_VALUE, MAX = Integer.MAX_VALUE;

    public static void main(String[] args) {
        whichWas();
        allSix();
        wholly();
        bad();
        badOfAFault();
        badBySix();
        due.end();
    }

    private static void whichWas() {
        due.sentence("A TEXT is THE RULE: which was");
        WellGivesOther x = new WellGivesOther();
        for (int text = 1; text < 4; text++) Wells.read(x, "gives 1;glads 2;costs 3;");
        int[] texts = {0, 1, 1, 3, 0, 2};
        int was = 0;
        for (int text : texts) {
            due.is("force(" + text + ")", was, x.force(text));
            due.is("count(5)", text, x.count(5));
            was = text;
        }
    }

    private static void allSix() {
        due.sentence("6 TEXTS at most: each is THE RULE");
        WellGivesOther x = Wells.of(0);
        for (int text = 1; text < 6; text++) Wells.read(x, "gives 0;glads 10*" + text + "+5;costs 0;");
        for (int text = 1; text < 6; text++) {
            due.is("force(" + text + ")", text - 1, x.force(text));
            due.is("glad by " + text, 10 * text + 5, x.glad(0, 0));
        }
        x.force(0);
        due.is("glad by 0", 7, x.glad(0, 7));
    }

    private static void wholly() {
        due.sentence("THE RULE gives, glads, costs");
        WellGivesOther x = Wells.of(0);
        Wells.read(x, "gives 4;glads 50;costs 7;");
        due.is("not yet", 1, x.asks(0, 1, 1));
        x.force(1);
        due.is("gives 4", 5, x.asks(0, 1, 1));
        due.is("glads 50", 50, x.glad(0, 1));
        due.is("costs 7", 7, x.asks(0, 1, 3));
    }

    private static void bad() {
        due.sentence("BAD: no such TEXT");
        due.refused(-2, x -> x.force(2), x -> x.force(-1), x -> x.force(3), x -> x.force(6), x -> x.force(MIN), x -> x.force(MAX));
        due.refusedBy(WellGivesOther::new, -2, x -> x.force(1), x -> x.force(-1));
    }

    private static void badOfAFault() {
        due.sentence("BAD: a FAULT has made no TEXT");
        WellGivesOther x = new WellGivesOther();
        Wells.read(x, "gives 1;glads 2;costs");
        due.is("force(1)", -2, x.force(1));
        due.is("count(5)", 0, x.count(5));
    }

    private static void badBySix() {
        due.sentence("BAD: there is no seventh TEXT");
        WellGivesOther x = new WellGivesOther();
        for (int text = 1; text < 7; text++) Wells.read(x, "gives 1;glads 2;costs 3;");
        due.is("force(5)", 0, x.force(5));
        due.is("force(6)", -2, x.force(6));
        due.is("count(5)", 5, x.count(5));
    }
}
