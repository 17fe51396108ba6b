/** Promise 27: count. */
public final class Promise27Test {
    private static final Due due = new Due("promise 27, count");
    private static final int MIN = Integer.MIN_VALUE, MAX = Integer.MAX_VALUE;

    public static void main(String[] args) {
        askers();
        twos();
        day();
        texts();
        tape();
        rule();
        inThought();
        bad();
        due.end();
    }

    private static void askers() {
        due.sentence("0 ASKERS: 0 .. 5");
        WellGivesOther x = new WellGivesOther();
        due.is("count(0)", 0, x.count(0));
        for (int many = 1; many <= 5; many++) {
            x.asker(0, 0);
            due.is("count(0)", many, x.count(0));
        }
        x.asker(0, 0);
        due.is("count(0)", 5, x.count(0));
    }

    private static void twos() {
        due.sentence("1 twos that are LIKE each other: 0 .. 66");
        WellGivesOther x = new WellGivesOther();
        int twos = 0;
        due.is("count(1)", 0, x.count(1));
        for (int one = 0; one < 12; one++) {
            for (int other = one + 1; other < 12; other++) {
                x.like(one, other, 1);
                twos++;
                due.is("count(1)", twos, x.count(1));
            }
        }
        due.is("all", 66, x.count(1));
        x.like(0, 11, 0);
        due.is("but one", 65, x.count(1));
    }

    private static void day() {
        due.sentence("2 DAY: 0 .. 999");
        WellGivesOther x = new WellGivesOther();
        int[] days = {0, 1, 998, 999};
        for (int day : days) {
            x.set(0, 0, day);
            due.is("count(2)", day, x.count(2));
        }
        x.day();
        due.is("count(2)", 999, x.count(2));
    }

    private static void texts() {
        due.sentence("3 TEXTS: 1 .. 6, TEXT 0 with them");
        WellGivesOther x = new WellGivesOther();
        due.is("count(3)", 1, x.count(3));
        for (int text = 1; text < 6; text++) {
            Wells.read(x, "gives 1;glads 1;costs 1;");
            due.is("count(3)", text + 1, x.count(3));
        }
        Wells.read(x, "gives 1;glads 1;costs 1;");
        due.is("count(3)", 6, x.count(3));
    }

    private static void tape() {
        due.sentence("4 bytes of THE TAPE: 0 .. 160");
        WellGivesOther x = new WellGivesOther();
        due.is("count(4)", 0, x.count(4));
        for (int bytes = 1; bytes <= 160; bytes++) {
            x.feed(bytes);
            due.is("count(4)", bytes, x.count(4));
        }
        x.feed(1);
        due.is("count(4)", 160, x.count(4));
        x.text();
        due.is("count(4)", 0, x.count(4));
    }

    private static void rule() {
        due.sentence("5 THE RULE");
        WellGivesOther x = new WellGivesOther();
        due.is("count(5)", 0, x.count(5));
        for (int text = 1; text < 6; text++) {
            Wells.read(x, "gives 1;glads 1;costs 1;");
            due.is("not by text()", text - 1, x.count(5));
            x.force(text);
            due.is("count(5)", text, x.count(5));
        }
        x.force(0);
        due.is("count(5)", 0, x.count(5));
    }

    private static void inThought() {
        due.sentence("in thought");
        int[] lively = {4, 2, 42, 2, 24, 0};
        for (int what = 0; what < 6; what++) {
            int w = what;
            due.inThought(lively[what], x -> x.count(w));
        }
    }

    private static void bad() {
        due.sentence("BAD: what is none of 0 .. 5");
        due.refused(-2, x -> x.count(6), x -> x.count(-1), x -> x.count(7), x -> x.count(MIN), x -> x.count(MAX));
    }
}
