/** What the tests do to wells: lay texts, fill sheets, and tell two wells apart. */
final class Wells {
    private static final int[] ASKED_SIZES = {1, 3, 4, 5, 12, 13, 14};

    private Wells() {
    }

    /** A set of THINGS as bits. */
    static int set(int... things) {
        int bits = 0;
        for (int thing : things) bits |= 1 << thing;
        return bits;
    }

    /** Lays a text's bytes on THE TAPE. */
    static void type(WellGivesOther x, String text) {
        for (int i = 0; i < text.length(); i++) x.feed(text.charAt(i));
    }

    /** Lays a text on THE TAPE and reads it: what text() answers. */
    static int read(WellGivesOther x, String text) {
        type(x, text);
        return x.text();
    }

    /** A text is read, and is THE RULE. */
    static void rule(WellGivesOther x, String text) {
        x.force(read(x, text));
    }

    /** A SHEET becomes a row of these numbers, of a sort. */
    static void fillOf(WellGivesOther x, int sheet, int sort, int... numbers) {
        x.sheet(sheet, sort, numbers.length);
        for (int i = 0; i < numbers.length; i++) x.cell(sheet, i, numbers[i]);
    }

    /** A SHEET becomes a row of these ints. */
    static void fill(WellGivesOther x, int sheet, int... numbers) {
        fillOf(x, sheet, 2, numbers);
    }

    /**
     * The number at a place of a SHEET of a sort, if it is one of 0 .. 4095; else -1. SHEET 3 is lost by it;
     * reader is an ASKER to whom nothing is SHUT.
     */
    static int numberAt(WellGivesOther x, int sheet, int sort, int i, int reader) {
        x.sheet(3, sort, 2);
        x.copy(sheet, i, 3, 0, 1);
        if (x.map(3) < 0) return -1;
        x.sheet(3, sort, 1);
        x.copy(sheet, i, 3, 0, 1);
        return Math.max(0, x.row(3, reader, 4));
    }

    /** A new well with these KINDS of ASKERS, NUMBER 0 each. */
    static WellGivesOther of(int... kinds) {
        WellGivesOther x = new WellGivesOther();
        for (int kind : kinds) x.asker(kind, 0);
        return x;
    }

    /**
     * A well of which every part holds something, and THE IMAGE something else: four of ASKERS,
     * SHEET 0 of four ints, 1 of three bytes, 2 of thirteen shorts, 3 missing, DAY 42, two TEXTS, a whole text on THE TAPE.
     */
    static WellGivesOther lively() {
        WellGivesOther x = new WellGivesOther();
        x.like(0, 1, 1);
        x.like(1, 2, 1);
        x.asker(0, 3);
        x.asker(4, 5);
        x.asker(3, 7);
        x.set(0, 0, 41);
        for (int one = 0; one < 3; one++) {
            x.set(2, one, 1 << one + 3);
            x.set(3, one, 1 << one + 7);
            x.set(4, one, 100 + one);
        }
        rule(x, "gives had;glads 9-thing;costs 7;");
        x.image();
        x.like(1, 2, 0);
        x.like(3, 5, 1);
        x.day();
        x.force(0);
        x.asker(2, 1);
        x.ask(0, 64);
        x.set(1, 1, 6);
        fill(x, 0, 1, 2, 4, 8);
        fillOf(x, 1, 0, 16, 32, 64);
        fillOf(x, 2, 1, 1, 3, 5, 7, 9, 11, 13, 15, 17, 19, 21, 23, 2048);
        type(x, "gives 2;glads 3;costs 4;");
        return x;
    }

    /** All that some 300 calls tell of a well: also what its SHEETS, its TAPE and its IMAGE hold. It is another well then. */
    static String story(WellGivesOther x) {
        StringBuilder s = new StringBuilder();
        tellNow(x, s);
        for (int sheet = 0; sheet < 4; sheet++) tellSheet(x, sheet, s);
        s.append(" text ").append(x.text()).append(' ').append(x.force(x.count(3) - 1));
        tellRule(x, s);
        s.append(" back ").append(x.back());
        tellNow(x, s);
        return s.toString();
    }

    private static void tellNow(WellGivesOther x, StringBuilder s) {
        for (int what = 0; what < 6; what++) s.append(' ').append(x.count(what));
        for (int one = 0; one < 5; one++) {
            for (int what = 0; what < 7; what++) s.append(' ').append(x.told(one, what));
        }
        for (int thing = 0; thing < 12; thing++) s.append(' ').append(x.told(thing, 7));
        tellRule(x, s);
    }

    private static void tellRule(WellGivesOther x, StringBuilder s) {
        s.append(" given ").append(x.asks(0, 1, 1)).append(" glad ").append(x.glad(0, 5)).append(" costs ").append(x.asks(0, 7, 3));
    }

    private static void tellSheet(WellGivesOther x, int sheet, StringBuilder s) {
        s.append(" sheet ").append(sheet);
        for (int sort = 0; sort < 3; sort++) s.append(' ').append(x.askers(sheet, sort, 0, 0));
        for (int size : ASKED_SIZES) s.append(' ').append(x.copy(sheet, 0, sheet, 0, size));
        for (int what = 0; what < 6; what++) s.append(' ').append(x.row(sheet, 0, what));
        s.append(' ').append(x.tells(sheet, 0, 0)).append(' ').append(x.map(sheet));
    }
}
