/** Promise 8: feed. */
public final class Promise08Test {
    private static final Due due = new Due("promise 8, feed");
    private static final int MIN = Integer.MIN_VALUE, MAX = Integer.MAX_VALUE;

    public static void main(String[] args) {
        howMany();
        bytes();
        behind();
        bad();
        full();
        badAheadOfFull();
        due.end();
    }

    private static WellGivesOther fullTape() {
        WellGivesOther x = new WellGivesOther();
        StringBuilder tape = new StringBuilder("gives day;glads thing;costs words;");
        while (tape.length() < 160) tape.append(' ');
        Wells.type(x, tape.toString());
        return x;
    }

    private static void howMany() {
        due.sentence("how many it has; 160 bytes at most");
        WellGivesOther x = new WellGivesOther();
        for (int i = 1; i <= 160; i++) {
            due.is("feed", i, x.feed(32));
            if (i > 157 || i < 3) due.is("count(4)", i, x.count(4));
        }
    }

    private static void bytes() {
        due.sentence("A byte (0 .. 255)");
        WellGivesOther x = new WellGivesOther();
        int[] letters = {0, 1, 31, 127, 128, 254, 255};
        for (int i = 0; i < letters.length; i++) due.is("feed " + letters[i], i + 1, x.feed(letters[i]));
    }

    private static void behind() {
        due.sentence("comes behind THE TAPE");
        WellGivesOther x = new WellGivesOther();
        Wells.type(x, "gives 1;glads 2");
        x.feed('3');
        Wells.type(x, ";costs 0;");
        x.force(x.text());
        x.asker(0, 0);
        due.is("glads 23", 23, x.glad(0, 0));
    }

    private static void bad() {
        due.sentence("BAD: it is none of 0 .. 255");
        due.refused(-2, x -> x.feed(-1), x -> x.feed(256), x -> x.feed(MIN), x -> x.feed(MAX));
    }

    private static void full() {
        due.sentence("FULL: 160 bytes at most");
        due.refusedBy(Promise08Test::fullTape, -4, x -> x.feed(32), x -> x.feed(0), x -> x.feed(255));
        WellGivesOther x = fullTape();
        x.feed('1');
        due.is("what was refused is not there", 1, x.text());
        due.is("there is room again", 1, x.feed('1'));
    }

    private static void badAheadOfFull() {
        due.sentence("BAD ahead of FULL");
        due.refusedBy(Promise08Test::fullTape, -2, x -> x.feed(256), x -> x.feed(-1));
    }
}
