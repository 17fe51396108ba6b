/** Promises 28 to 32: sheet, cell, copy, askers, taken. */
public final class HostTest {
    private static final Due due = new Due();
    private static final int MIN = Integer.MIN_VALUE, MAX = Integer.MAX_VALUE;

    public static void main(String[] args) {
        sheets();
        cells();
        copies();
        comers();
        takings();
        due.end("HostTest");
    }

    private static void sheets() {
        WellGivesOther x = new WellGivesOther();
        int[][] bad = {{-1, 0, 1}, {4, 0, 1}, {0, -2, 1}, {0, 3, 1}, {0, 0, 41}, {0, 2, MAX}, {4, 0, -1}, {0, 3, -1}, {MIN, MIN, MIN}};
        for (int[] b : bad) due.is("sheet bad", -2, x.sheet(b[0], b[1], b[2]));
        due.is("sheet below 0", -14, x.sheet(0, 0, -1));
        due.is("sheet below 0", -14, x.sheet(3, 2, MIN));
        due.is("still missing", -11, x.cell(0, 0, 0));
        due.is("sheet of 40", 1, x.sheet(0, 2, 40));
        due.is("last of 40", 1, x.cell(0, 39, 9));
        due.is("behind 40", -12, x.cell(0, 40, 9));
        due.is("anew", 1, x.sheet(0, 2, 40));
        due.is("all 0", 0, x.map(0));
        for (int i = 0; i < 40; i++) x.cell(0, i, 1);
        x.sheet(0, 2, 40);
        due.is("all 0 anew", 0, x.map(0));
        x.cell(0, 0, 2);
        x.cell(0, 1, 0);
        due.is("not all 0", 1, x.map(0));
        x.sheet(0, 2, 40);
        due.is("the first 0 anew", 0, x.map(0));
        due.is("refused", -14, x.sheet(0, 0, -5));
        due.is("as it was", 1, x.cell(0, 39, 9));
        due.is("sheet of none", 1, x.sheet(1, 0, 0));
        due.is("nothing in it", -12, x.cell(1, 0, 0));
        int[] whatever = {-1, 41, MIN, MAX, 0};
        for (int n : whatever) {
            x.sheet(2, 1, 3);
            due.is("missing, n " + n, 1, x.sheet(2, -1, n));
            due.is("is missing", -11, x.cell(2, 0, 0));
        }
    }

    private static void cells() {
        WellGivesOther x = new WellGivesOther();
        x.asker(0, 0);
        due.is("cell sheet", -2, x.cell(4, 0, 0));
        due.is("cell sheet", -2, x.cell(-1, 0, 0));
        due.is("cell missing", -11, x.cell(0, 0, 0));
        due.is("cell missing ahead of outside", -11, x.cell(0, -1, 0));
        // By asking for 0 alone 1 is given: a byte, a short of it, and what they cut.
        int[][] sortsAndNumbers = {{0, 1, 1}, {0, 257, 1}, {0, -255, 1}, {0, 256, 0}, {0, 2, 0}, {1, 65537, 1}, {1, 257, 0},
            {1, -65535, 1}, {2, 1, 1}, {2, 65537, 0}, {2, 257, 0}};
        for (int[] s : sortsAndNumbers) {
            x.sheet(1, s[0], 1);
            due.is("cell", 1, x.cell(1, 0, s[1]));
            due.is("cut of " + s[1], s[2] == 1 ? -1 : 0, x.tells(1, 0, 0));
        }
        int[] places = {-1, 1, MIN, MAX};
        for (int i : places) due.is("cell outside", -12, x.cell(1, i, 5));
        // A byte and a short have a sign: nothing is -1.
        x.set(2, 0, 4095);
        int[][] below = {{0, 255}, {0, -1}, {1, 65535}, {2, -1}};
        for (int[] s : below) {
            x.sheet(2, s[0], 1);
            x.cell(2, 0, s[1]);
            due.is("nothing", -1, x.tells(2, 0, 0));
        }
    }

    /** The first numbers that a sheet of sets and things, or of ASKERS, tells are told by row(). */
    private static int only(WellGivesOther x, int sheet, int i) {
        x.sheet(3, 2, 0);
        x.sheet(3, 2, 1);
        x.copy(sheet, i, 3, 0, 1);
        return x.row(3, 0, 4);
    }

    private static void copies() {
        WellGivesOther x = new WellGivesOther();
        x.asker(0, 0);
        Due.fill(x, 0, 1, 2, 4, 8, 16);
        due.is("copy up itself", 4, x.copy(0, 0, 0, 1, 4));
        int[] up = {1, 1, 2, 4, 8};
        for (int i = 0; i < 5; i++) due.is("up " + i, up[i], only(x, 0, i));
        Due.fill(x, 0, 1, 2, 4, 8, 16);
        due.is("copy down itself", 4, x.copy(0, 1, 0, 0, 4));
        int[] down = {2, 4, 8, 16, 16};
        for (int i = 0; i < 5; i++) due.is("down " + i, down[i], only(x, 0, i));
        Due.fill(x, 1, 32, 64);
        due.is("copy to another", 2, x.copy(1, 0, 0, 3, 2));
        int[] to = {2, 4, 8, 32, 64};
        for (int i = 0; i < 5; i++) due.is("to " + i, to[i], only(x, 0, i));
        due.is("copy none at the end", 0, x.copy(1, 2, 0, 5, 0));
        int[][] outside = {{-1, 0, 1}, {0, -1, 1}, {0, 0, -1}, {1, 0, 2}, {0, 4, 2}, {0, 0, 3}, {3, 0, 0}, {0, 6, 0}, {MAX, 0, 1},
            {0, MAX, 1}, {1, 1, MAX}, {MIN, MIN, MIN}, {MAX, MAX, MAX}};
        for (int[] o : outside) due.is("copy outside", -12, x.copy(1, o[0], 0, o[1], o[2]));
        for (int i = 0; i < 5; i++) due.is("as it was " + i, to[i], only(x, 0, i));
        x.sheet(2, 1, 4);
        due.is("copy unlike", -13, x.copy(0, 0, 2, 0, 1));
        due.is("copy unlike ahead of outside", -13, x.copy(0, -1, 2, 0, 1));
        x.sheet(2, -1, 0);
        due.is("copy to missing", -11, x.copy(0, 0, 2, 0, 1));
        due.is("copy from missing", -11, x.copy(2, 0, 0, 0, 0));
        int[][] bad = {{4, 0}, {0, 4}, {-1, 2}, {2, -1}, {MIN, MAX}};
        for (int[] b : bad) due.is("copy bad", -2, x.copy(b[0], 0, b[1], 0, 0));
    }

    private static void comers() {
        WellGivesOther x = new WellGivesOther();
        due.is("askers missing", -11, x.askers(0, 0, 0, 0));
        x.sheet(0, 0, 11);
        int[] numbers = {9, 1, 2, 6, 0, 3, 4, 0, 10, 5, 6};
        for (int i = 0; i < numbers.length; i++) x.cell(0, i, numbers[i]);
        due.is("askers none", 0, x.askers(0, 0, 0, 0));
        due.is("askers none from nowhere", 0, x.askers(0, 0, 99, 0));
        // 1 2 comes, 6 0 is none, 3 4 comes, 0 10 is none, 5 6 comes.
        due.is("askers", 3, x.askers(0, 0, 1, 5));
        int[][] came = {{1, 2}, {3, 4}, {5, 6}};
        for (int i = 0; i < 3; i++) {
            due.is("kind", came[i][0], x.told(i, 5));
            due.is("number", came[i][1], x.told(i, 1));
        }
        due.is("askers outside", -12, x.askers(0, 0, 9, 2));
        due.is("what stood ahead came", 4, x.count(0));
        due.is("askers half outside", -12, x.askers(0, 0, 10, 1));
        due.is("askers below", -12, x.askers(0, 0, -1, 1));
        due.is("askers far below", -12, x.askers(0, 0, MIN, 5));
        due.is("askers far above", -12, x.askers(0, 0, MAX, 5));
        due.is("none came", 4, x.count(0));
        due.is("askers full", 1, x.askers(0, 0, 1, 5));
        due.is("full", 5, x.count(0));
        due.is("askers left out", 0, x.askers(0, 0, 1, 5));
        due.is("askers unlike", -13, x.askers(0, 1, 0, 0));
        due.is("askers unlike ahead of outside", -13, x.askers(0, 2, -1, 5));
        int[][] bad = {{-1, 0, 0}, {4, 0, 0}, {0, -1, 0}, {0, 3, 0}, {0, 0, -1}, {0, 0, 6}, {1, 0, 6}, {0, 1, 6}, {MIN, MAX, MIN}};
        for (int[] b : bad) due.is("askers bad", -2, x.askers(b[0], b[1], 0, b[2]));
    }

    private static void takings() {
        int[][] above = {{0}, {1, 0}, {2, 0}, {3, 1, 0}, {4, 2, 0}, {5, 0}};
        for (int kind = 0; kind < 6; kind++) {
            WellGivesOther x = new WellGivesOther();
            x.asker(kind, 8);
            for (int k = 0; k < 6; k++) {
                boolean under = false;
                for (int a : above[kind]) under |= a == k;
                due.is("taken " + kind + " for " + k, under ? 8 : -13, x.taken(0, k));
            }
        }
        WellGivesOther x = new WellGivesOther();
        x.asker(1, 8);
        int[] none = {1, -1, MIN, MAX};
        for (int one : none) {
            due.is("taken none such", -11, x.taken(one, 0));
            due.is("taken bad ahead", -2, x.taken(one, 6));
        }
        due.is("taken bad", -2, x.taken(0, 6));
        due.is("taken bad", -2, x.taken(0, -1));
        due.is("taken bad", -2, x.taken(0, MAX));
    }
}
