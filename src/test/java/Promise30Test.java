/** Promise 30: copy. */
public final class Promise30Test {
    private static final Due due = new Due("promise 30, copy");
    private static final int MIN = Integer.MIN_VALUE, MAX = Integer.MAX_VALUE;

    public static void main(String[] args) {
        toAnother();
        ofItself();
        none();
        whole();
        ofEachSort();
        nothingElse();
        badSheet();
        missing();
        unlike();
        fromOutside();
        toOutside();
        below0();
        order();
        due.end();
    }

    private static void holds(WellGivesOther x, int sheet, int... numbers) {
        for (int i = 0; i < numbers.length; i++) {
            due.is("number " + i + " of " + sheet, numbers[i], Wells.numberAt(x, sheet, 2, i, 0));
        }
    }

    private static WellGivesOther filled() {
        WellGivesOther x = Wells.of(0);
        Wells.fill(x, 0, 1, 2, 3, 4, 5);
        Wells.fill(x, 1, 11, 12, 13);
        return x;
    }

    private static void toAnother() {
        due.sentence("n numbers of a SHEET, from item i on, come to another one's item j on: n");
        WellGivesOther x = filled();
        due.is("copy", 2, x.copy(1, 1, 0, 2, 2));
        holds(x, 0, 1, 2, 12, 13, 5);
        holds(x, 1, 11, 12, 13);
        WellGivesOther y = filled();
        due.is("copy", 1, y.copy(0, 4, 1, 0, 1));
        holds(y, 1, 5, 12, 13);
        holds(y, 0, 1, 2, 3, 4, 5);
    }

    private static void ofItself() {
        due.sentence("as they were: up in itself");
        WellGivesOther x = filled();
        due.is("copy", 4, x.copy(0, 0, 0, 1, 4));
        holds(x, 0, 1, 1, 2, 3, 4);
        due.sentence("as they were: down in itself");
        WellGivesOther y = filled();
        due.is("copy", 4, y.copy(0, 1, 0, 0, 4));
        holds(y, 0, 2, 3, 4, 5, 5);
        due.sentence("as they were: onto itself");
        WellGivesOther z = filled();
        due.is("copy", 5, z.copy(0, 0, 0, 0, 5));
        holds(z, 0, 1, 2, 3, 4, 5);
    }

    private static void none() {
        due.sentence("n 0, also at the end");
        WellGivesOther x = filled();
        due.is("at the first", 0, x.copy(0, 0, 1, 0, 0));
        due.is("at both ends", 0, x.copy(0, 5, 1, 3, 0));
        holds(x, 0, 1, 2, 3, 4, 5);
        holds(x, 1, 11, 12, 13);
        x.sheet(2, 2, 0);
        due.is("of a row of none", 0, x.copy(2, 0, 1, 3, 0));
    }

    private static void whole() {
        due.sentence("up to the last of both");
        WellGivesOther x = filled();
        due.is("three to the end", 3, x.copy(1, 0, 0, 2, 3));
        holds(x, 0, 1, 2, 11, 12, 13);
        WellGivesOther y = filled();
        due.is("three from the end", 3, y.copy(0, 2, 1, 0, 3));
        holds(y, 1, 3, 4, 5);
        WellGivesOther z = Wells.of(0);
        z.sheet(0, 2, 40);
        z.cell(0, 39, 7);
        z.sheet(1, 2, 40);
        due.is("all 40", 40, z.copy(0, 0, 1, 0, 40));
        due.is("number 39", 7, Wells.numberAt(z, 1, 2, 39, 0));
    }

    private static void ofEachSort() {
        due.sentence("of bytes, shorts, ints");
        int[] values = {127, 4095, 4095};
        for (int sort = 0; sort < 3; sort++) {
            WellGivesOther x = Wells.of(0);
            Wells.fillOf(x, 0, sort, 1, values[sort]);
            x.sheet(1, sort, 2);
            due.is("copy", 2, x.copy(0, 0, 1, 0, 2));
            due.is("number 0", 1, Wells.numberAt(x, 1, sort, 0, 0));
            due.is("number 1", values[sort], Wells.numberAt(x, 1, sort, 1, 0));
        }
    }

    private static void nothingElse() {
        due.sentence("nothing but the other SHEET is otherwise");
        WellGivesOther x = Wells.lively();
        x.sheet(3, 2, 4);
        x.copy(0, 0, 3, 0, 4);
        x.sheet(3, -1, 0);
        due.isTrue("all else", Wells.story(x).equals(Wells.story(Wells.lively())));
    }

    private static void badSheet() {
        due.sentence("BAD: no such SHEET");
        due.refused(-2, x -> x.copy(4, 0, 0, 0, 1), x -> x.copy(0, 0, 4, 0, 1), x -> x.copy(-1, 0, 0, 0, 1), x -> x.copy(0, 0, -1, 0, 1),
            x -> x.copy(MIN, 0, 0, 0, 0), x -> x.copy(0, 0, MAX, 0, 0));
    }

    private static void missing() {
        due.sentence("-11: a SHEET is missing");
        due.refused(-11, x -> x.copy(3, 0, 0, 0, 1), x -> x.copy(0, 0, 3, 0, 1), x -> x.copy(3, 0, 3, 0, 0), x -> x.copy(3, 0, 0, 0, 0),
            x -> x.copy(0, 0, 3, 0, 0));
    }

    private static void unlike() {
        due.sentence("-13: they are of unlike sorts");
        due.refused(-13, x -> x.copy(0, 0, 1, 0, 1), x -> x.copy(1, 0, 0, 0, 1), x -> x.copy(1, 0, 2, 0, 1), x -> x.copy(2, 0, 0, 0, 1),
            x -> x.copy(0, 0, 2, 0, 0));
    }

    private static void fromOutside() {
        due.sentence("-12: the place that they are from");
        due.refusedBy(Promise30Test::filled, -12, x -> x.copy(0, -1, 1, 0, 1), x -> x.copy(0, 5, 1, 0, 1), x -> x.copy(0, 6, 1, 0, 0),
            x -> x.copy(0, -1, 1, 0, 0), x -> x.copy(0, 3, 1, 0, 3), x -> x.copy(1, 0, 0, 0, 4), x -> x.copy(0, MIN, 1, 0, 1),
            x -> x.copy(0, MAX, 1, 0, 1), x -> x.copy(0, MAX, 1, 0, 3));
    }

    private static void toOutside() {
        due.sentence("-12: the place that they come to");
        due.refusedBy(Promise30Test::filled, -12, x -> x.copy(0, 0, 1, -1, 1), x -> x.copy(0, 0, 1, 3, 1), x -> x.copy(0, 0, 1, 4, 0),
            x -> x.copy(0, 0, 1, -1, 0), x -> x.copy(0, 0, 1, 2, 2), x -> x.copy(0, 0, 1, 0, 4), x -> x.copy(0, 0, 1, MIN, 1),
            x -> x.copy(0, 0, 1, MAX, 1), x -> x.copy(0, 0, 1, MAX, 3));
    }

    private static void below0() {
        due.sentence("-12 (also with n below 0)");
        due.refusedBy(Promise30Test::filled, -12, x -> x.copy(0, 0, 1, 0, -1), x -> x.copy(0, 2, 1, 2, -1), x -> x.copy(0, 5, 1, 3, -2),
            x -> x.copy(0, 0, 1, 0, MIN), x -> x.copy(0, 0, 1, 0, MAX), x -> x.copy(0, 1, 1, 1, MAX), x -> x.copy(0, 0, 0, 0, -1));
    }

    private static void order() {
        due.sentence("BAD ahead of -11");
        due.refused(-2, x -> x.copy(3, 0, 4, 0, 1), x -> x.copy(4, 0, 3, 0, 1));
        due.sentence("-11 ahead of -13, -12");
        due.refused(-11, x -> x.copy(3, -1, 0, 0, 1), x -> x.copy(0, -1, 3, 0, 1), x -> x.copy(3, 0, 1, 0, -1), x -> x.copy(1, 9, 3, 9, 9));
        due.sentence("-13 ahead of -12");
        due.refused(-13, x -> x.copy(0, -1, 1, 0, 1), x -> x.copy(0, 0, 1, 9, 1), x -> x.copy(0, 0, 2, 0, -1), x -> x.copy(0, 0, 1, 0, 40));
    }
}
