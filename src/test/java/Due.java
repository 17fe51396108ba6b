/** Counts the answers that are not due, and tells each. */
final class Due {
    private int wrong;
    private int seen;

    void is(String call, long want, long got) {
        seen++;
        if (got == want) return;
        wrong++;
        if (wrong <= 40) System.out.println(call + " answered " + got + ", due is " + want);
    }

    void isTrue(String what, boolean so) {
        is(what, 1, so ? 1 : 0);
    }

    void end(String name) {
        System.out.println(name + ": " + seen + " answers, " + wrong + " not as due");
        if (wrong != 0) System.exit(1);
    }

    /** Lays a text's bytes on the tape. */
    static void type(WellGivesOther x, String text) {
        for (int i = 0; i < text.length(); i++) x.feed(text.charAt(i));
    }

    /** Lays a text on the tape and reads it: what text() answers. */
    static int read(WellGivesOther x, String text) {
        type(x, text);
        return x.text();
    }

    /** Makes a sheet of ints that tells these numbers. */
    static void fill(WellGivesOther x, int sheet, int... numbers) {
        x.sheet(sheet, 2, numbers.length);
        for (int i = 0; i < numbers.length; i++) x.cell(sheet, i, numbers[i]);
    }

    /** A set of things as bits. */
    static int set(int... things) {
        int bits = 0;
        for (int thing : things) bits |= 1 << thing;
        return bits;
    }
}
