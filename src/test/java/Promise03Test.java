/** Promise 3: set. */
public final class Promise03Test {
    private static final Due due = new Due("promise 3, set");
    private static final int MIN = Integer.MIN_VALUE, MAX = Integer.MAX_VALUE;

    public static void main(String[] args) {
        becomes("DAY (what 0) becomes v: what it was; DAY 0 .. 999", 0, 999);
        becomes("NUMBER (1) becomes v: what it was; NUMBER 0 .. 9", 1, 9);
        becomes("SHUT (2; bits) becomes v: what it was; bits 0 .. 4095", 2, 4095);
        becomes("HAD (3; bits) becomes v: what it was; bits 0 .. 4095", 3, 4095);
        becomes("SPENT (4) becomes v: what it was; SPENT 0 .. 9999", 4, 9999);
        justThat();
        ofDoesNotMatter();
        badDay();
        badNumber();
        badShut();
        badHad();
        badSpent();
        badNoSuch();
        badWhat();
        due.end();
    }

    private static void becomes(String sentence, int what, int most) {
        due.sentence(sentence);
        WellGivesOther x = Wells.of(0, 1);
        int was = 0;
        int[] values = {most, 0, 1, most - 1, most, most / 2};
        for (int v : values) {
            due.is("set(" + what + ", 1, " + v + ")", was, x.set(what, 1, v));
            due.is("told(1, " + what + ")", v, x.told(1, what));
            was = v;
        }
    }

    private static void justThat() {
        due.sentence("of one of ASKERS, and nothing else");
        WellGivesOther x = Wells.of(0, 3, 5);
        for (int what = 0; what < 5; what++) x.set(what, 1, what + 1);
        for (int what = 1; what < 5; what++) {
            due.is("told(0, " + what + ")", 0, x.told(0, what));
            due.is("told(1, " + what + ")", what + 1, x.told(1, what));
            due.is("told(2, " + what + ")", 0, x.told(2, what));
        }
        due.is("DAY", 1, x.count(2));
        due.is("KIND", 3, x.told(1, 5));
        x.set(1, 0, 9);
        x.set(1, 2, 8);
        due.is("the first", 9, x.told(0, 1));
        due.is("the last", 8, x.told(2, 1));
    }

    private static void ofDoesNotMatter() {
        due.sentence("DAY: of does not matter");
        WellGivesOther x = new WellGivesOther();
        int was = 0;
        int[] ofs = {0, 1, -1, 5, 99, MIN, MAX};
        for (int of : ofs) {
            due.is("set(0, " + of + ", ..)", was, x.set(0, of, was + 7));
            was += 7;
        }
        due.is("DAY", was, x.count(2));
    }

    private static void badDay() {
        due.sentence("BAD: DAY is none of 0 .. 999");
        due.refused(-2, x -> x.set(0, 0, 1000), x -> x.set(0, 0, -1), x -> x.set(0, 0, MIN), x -> x.set(0, 0, MAX));
    }

    private static void badNumber() {
        due.sentence("BAD: NUMBER is none of 0 .. 9");
        due.refused(-2, x -> x.set(1, 0, 10), x -> x.set(1, 0, -1), x -> x.set(1, 0, MIN), x -> x.set(1, 0, MAX));
    }

    private static void badShut() {
        due.sentence("BAD: SHUT is none of 0 .. 4095");
        due.refused(-2, x -> x.set(2, 0, 4096), x -> x.set(2, 0, -1), x -> x.set(2, 0, MIN), x -> x.set(2, 0, MAX));
    }

    private static void badHad() {
        due.sentence("BAD: HAD is none of 0 .. 4095");
        due.refused(-2, x -> x.set(3, 0, 4096), x -> x.set(3, 0, -1), x -> x.set(3, 0, MIN), x -> x.set(3, 0, MAX));
    }

    private static void badSpent() {
        due.sentence("BAD: SPENT is none of 0 .. 9999");
        due.refused(-2, x -> x.set(4, 0, 10000), x -> x.set(4, 0, -1), x -> x.set(4, 0, MIN), x -> x.set(4, 0, MAX));
    }

    private static void badNoSuch() {
        due.sentence("BAD: no such one of ASKERS");
        for (int what = 1; what < 5; what++) {
            int w = what;
            due.refused(-2, x -> x.set(w, 4, 1), x -> x.set(w, -1, 1), x -> x.set(w, 5, 1), x -> x.set(w, MIN, 1), x -> x.set(w, MAX, 1));
        }
    }

    private static void badWhat() {
        due.sentence("BAD: what is none of 0 .. 4");
        due.refused(-2, x -> x.set(5, 0, 1), x -> x.set(6, 0, 1), x -> x.set(-1, 0, 1), x -> x.set(MIN, 0, 1), x -> x.set(MAX, 0, 1));
    }
}
