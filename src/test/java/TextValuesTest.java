/** Promises 9 and 10: what the numbers of a TEXT come to, told by glad(). */
public final class TextValuesTest {
    private static final Due due = new Due("promises 9, 10, the numbers of a TEXT");

    public static void main(String[] args) {
        numbers();
        sums();
        terms();
        compared();
        nots();
        ands();
        ors();
        truth();
        wrapping();
        deep();
        due.end();
    }

    private static void is(int want, String e) {
        WellGivesOther x = Wells.of(0);
        Wells.rule(x, "gives 0;glads " + e + ";costs 0;");
        due.is(e, want, x.glad(0, 0));
    }

    private static void numbers() {
        due.sentence("a NUMBER");
        is(0, "0");
        is(7, "7");
        is(98, "98");
        is(42, "0042");
        is(10, "9999-9989");
        is(1, "1000*5-4999");
        due.sentence("- ONE");
        is(-1, "-1");
        is(1, "--1");
        is(-7, "---7");
        is(0, "-0");
        due.sentence("( E )");
        is(5, "(5)");
        is(5, "(((5)))");
        is(-5, "-(5)");
    }

    private static void sums() {
        due.sentence("TERM { + or - TERM }: one behind the other, from the first on");
        is(3, "1+2");
        is(-1, "1-2");
        is(-4, "1-2-3");
        is(2, "1-2+3");
        is(2, "1-(2-3)");
        is(5, "2--3");
        is(-1, "2+-3");
        is(1, "-2+3");
    }

    private static void terms() {
        due.sentence("ONE { * ONE }, ahead of + and -");
        is(6, "2*3");
        is(24, "2*3*4");
        is(7, "1+2*3");
        is(5, "2*3-1");
        is(-5, "1-2*3");
        is(9, "(1+2)*3");
        is(-6, "-2*3");
        is(-6, "2*-3");
        is(6, "-2*-3");
        is(0, "5*0");
    }

    private static void compared() {
        due.sentence("<: 1 or 0");
        is(1, "1<2");
        is(0, "2<2");
        is(0, "3<2");
        is(1, "-3<2");
        is(0, "2<-3");
        is(1, "-3<-2");
        is(1, "1+1<3*1");
        due.sentence("=: 1 or 0");
        is(1, "2=2");
        is(0, "2=3");
        is(0, "3=2");
        is(0, "2=-2");
        is(1, "1+1=2*1");
        is(1, "0=0");
    }

    private static void nots() {
        due.sentence("not: 1 or 0");
        is(1, "not 0");
        is(0, "not 1");
        is(0, "not 5");
        is(0, "not -1");
        is(1, "not not 5");
        is(0, "not not 0");
        is(0, "not not not 5");
        due.sentence("not: of all that stands behind it up to and, or");
        is(0, "not 1=1");
        is(1, "not 1=2");
        is(0, "not 1<2");
        is(1, "not 2<1");
        is(0, "not 0+1");
        is(0, "not 0=0");
        is(0, "not 1 and 0");
        is(1, "not (1 and 0)");
        is(1, "not 0 or 1");
        is(1, "not 1 or 1");
        is(3, "(not 0)+2");
    }

    private static void ands() {
        due.sentence("and: 1 or 0");
        is(1, "1 and 1");
        is(1, "5 and 6");
        is(0, "5 and 0");
        is(0, "0 and 5");
        is(0, "0 and 0");
        is(1, "2 and 1");
        is(1, "1 and 2 and 3");
        is(0, "1 and 2 and 0");
        is(0, "0 and 2 and 3");
        is(1, "1<2 and 2<3");
    }

    private static void ors() {
        due.sentence("or: 1 or 0");
        is(1, "1 or 1");
        is(1, "5 or 0");
        is(1, "0 or 5");
        is(1, "5 or 6");
        is(0, "0 or 0");
        is(0, "0 or 0 or 0");
        is(1, "0 or 0 or 7");
        is(1, "0 or 1=1");
        due.sentence("and ahead of or");
        is(1, "1 or 0 and 0");
        is(0, "(1 or 0) and 0");
        is(1, "0 and 0 or 7");
        is(1, "1 or 1 and 0");
        is(0, "0 or 1 and 0");
    }

    private static void truth() {
        due.sentence("what is not 0 is true");
        is(1, "0 or -1");
        is(1, "-1 and -1");
        is(0, "not -7");
        is(1, "2 and 4");
        is(1, "256*256*256*128 or 0");
        due.sentence("an E that is no or, and, not, <, = is its own number");
        is(5, "5");
        is(-5, "-5");
        is(5, "(5)");
    }

    private static void wrapping() {
        due.sentence("An E is an int (32 bits, wrapping)");
        is(0, "4096*4096*256");
        is(1, "2048*2048*512<0");
        is(-99, "2048*2048*512");
        is(99, "2048*2048*512-1");
        is(-99, "2048*2048*512-1+1");
        is(1, "-(2048*2048*512)=2048*2048*512");
        is(1, "2048*2048*512+2048*2048*512=0");
        is(1, "2048*2048*511+2048*2048<0");
        is(9999 * 9999 * 9999 < 0 ? -99 : 99, "9999*9999*9999");
        is(9999 * 9999 * 9999 - 1122 * 9999 < 4455 ? 1 : 0, "9999*9999*9999-1122*9999<4455");
    }

    private static void deep() {
        due.sentence("5 of these open");
        is(1 + 2 * (3 + 4 * (5 - 6 * (7 - 8))), "1+2*(3+4*(5-6*(7-8)))");
        is(62, "(((((1+2)*3)-4)*5)+6)*2");
        for (int innermost = 0; innermost < 2; innermost++) {
            StringBuilder e = new StringBuilder();
            for (int open = 0; open < 5; open++) e.append("0 or 1 and 0<0+1*(");
            is(innermost, e.append(innermost).append(")))))").toString());
        }
    }
}
