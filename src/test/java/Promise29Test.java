/** Promise 29: cell. */
public final class Promise29Test {
    private static final Due due = new Due("promise 29, cell");
    private static final int MIN = Integer.MIN_VALUE, MAX = Integer.MAX_VALUE;

    public static void main(String[] args) {
        becomesV();
        lowest8();
        lowest16();
        allOfAnInt();
        signs();
        justThatItem();
        nothingElse();
        badSheet();
        missing();
        outside();
        order();
        due.end();
    }

    private static int numberOf(int sort, int v) {
        WellGivesOther x = Wells.of(0);
        x.sheet(1, sort, 3);
        due.is("cell", 1, x.cell(1, 1, v));
        return Wells.numberAt(x, 1, sort, 1, 0);
    }

    private static void becomesV() {
        due.sentence("Item i of a SHEET becomes v: 1");
        for (int sort = 0; sort < 3; sort++) {
            int[] values = {0, 1, 64, 127};
            for (int v : values) due.is("v " + v, v, numberOf(sort, v));
        }
        WellGivesOther x = Wells.of(0);
        x.sheet(0, 2, 40);
        due.is("the first", 1, x.cell(0, 0, 7));
        due.is("the last", 1, x.cell(0, 39, 9));
        due.is("number 0", 7, Wells.numberAt(x, 0, 2, 0, 0));
        due.is("number 39", 9, Wells.numberAt(x, 0, 2, 39, 0));
        x.cell(0, 39, 8);
        due.is("number 39 again", 8, Wells.numberAt(x, 0, 2, 39, 0));
    }

    private static void lowest8() {
        due.sentence("of bytes its lowest 8 bits");
        int[][] cut = {{256, 0}, {257, 1}, {383, 127}, {-255, 1}, {65536 + 77, 77}, {MIN, 0}, {MIN + 5, 5}, {-129, 127}};
        for (int[] c : cut) due.is("v " + c[0], c[1], numberOf(0, c[0]));
    }

    private static void lowest16() {
        due.sentence("of shorts its lowest 16 bits");
        int[][] cut = {{257, 257}, {4095, 4095}, {65536, 0}, {65537, 1}, {65536 + 4095, 4095}, {-65535, 1}, {MIN, 0}, {MIN + 300, 300}};
        for (int[] c : cut) due.is("v " + c[0], c[1], numberOf(1, c[0]));
    }

    private static void allOfAnInt() {
        due.sentence("of ints all of it");
        due.is("v 4095", 4095, numberOf(2, 4095));
        int[] others = {65536, 65537, 65536 + 77, MIN, MIN + 5, MAX, -255, -65535, 1 << 16 | 1, 1 << 24, 256 * 17};
        for (int v : others) due.is("v " + v + ", that is no set", -1, numberOf(2, v));
    }

    private static void signs() {
        due.sentence("bytes, shorts, ints below 0: -1 is NONE");
        int[][] below = {{0, 255}, {0, -1}, {0, 511}, {1, 65535}, {1, -1}, {2, -1}};
        for (int[] b : below) {
            WellGivesOther x = Wells.of(0);
            x.set(2, 0, 4095);
            x.sheet(0, b[0], 1);
            x.cell(0, 0, b[1]);
            due.is("nothing, by " + b[1], -1, x.tells(0, 0, 0));
        }
        due.sentence("bytes, shorts below 0: no set, no THING");
        int[][] none = {{0, 128}, {0, 200}, {1, 32768}, {1, 40000}};
        for (int[] n : none) due.is("v " + n[1], -1, numberOf(n[0], n[1]));
    }

    private static void justThatItem() {
        due.sentence("Item i, and no other");
        WellGivesOther x = Wells.of(0);
        Wells.fill(x, 0, 1, 2, 3, 4);
        Wells.fill(x, 1, 5, 6, 7, 8);
        x.cell(0, 2, 9);
        int[] first = {1, 2, 9, 4};
        for (int i = 0; i < 4; i++) due.is("number " + i, first[i], Wells.numberAt(x, 0, 2, i, 0));
        for (int i = 0; i < 4; i++) due.is("number " + i + " of another", 5 + i, Wells.numberAt(x, 1, 2, i, 0));
    }

    private static void nothingElse() {
        due.sentence("nothing but the item is otherwise");
        WellGivesOther x = Wells.lively();
        x.cell(0, 1, 77);
        x.cell(0, 1, 2);
        due.isTrue("all else", Wells.story(x).equals(Wells.story(Wells.lively())));
    }

    private static void badSheet() {
        due.sentence("BAD: no such SHEET");
        due.refused(-2, x -> x.cell(4, 0, 1), x -> x.cell(-1, 0, 1), x -> x.cell(MIN, 0, 1), x -> x.cell(MAX, 0, 1));
    }

    private static void missing() {
        due.sentence("-11: the SHEET is missing");
        due.refused(-11, x -> x.cell(3, 0, 1), x -> x.cell(3, 39, 1));
    }

    private static void outside() {
        due.sentence("-12: a place outside");
        due.refused(-12, x -> x.cell(0, 4, 1), x -> x.cell(0, -1, 1), x -> x.cell(1, 3, 1), x -> x.cell(2, 13, 1), x -> x.cell(0, 39, 1),
            x -> x.cell(0, 40, 1), x -> x.cell(0, MIN, 1), x -> x.cell(0, MAX, 1));
        WellGivesOther x = new WellGivesOther();
        x.sheet(0, 2, 40);
        due.is("behind 40", -12, x.cell(0, 40, 1));
        x.sheet(0, 2, 0);
        due.is("of a row of none", -12, x.cell(0, 0, 1));
    }

    private static void order() {
        due.sentence("BAD ahead of -12");
        due.refused(-2, x -> x.cell(4, -1, 1), x -> x.cell(-1, 40, 1));
        due.sentence("-11 ahead of -12");
        due.refused(-11, x -> x.cell(3, -1, 1), x -> x.cell(3, 40, 1), x -> x.cell(3, MIN, 1));
    }
}
