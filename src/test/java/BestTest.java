/** Promises 15 to 20: leave, gladdest, get, map, net, share. */
public final class BestTest {
    private static final Due due = new Due();
    private static final int MIN = Integer.MIN_VALUE, MAX = Integer.MAX_VALUE;

    public static void main(String[] args) {
        leaves();
        gladdests();
        gets();
        maps();
        nets();
        shares();
        due.end("BestTest");
    }

    private static void leaves() {
        WellGivesOther x = new WellGivesOther();
        x.asker(0, 0);
        x.asker(3, 0);
        due.is("leave", 4095 & ~Due.set(5), x.leave(0, 5, 0));
        due.is("leave of", 11, x.leave(0, 5, 1));
        x.set(2, 0, 4095 & ~Due.set(5, 6));
        due.is("leave of two", Due.set(6), x.leave(0, 5, 0));
        due.is("leave of two of", 1, x.leave(0, 5, 1));
        due.is("leave what is shut", -1, x.leave(0, 4, 0));
        due.is("leave what is shut of", -1, x.leave(0, 4, 1));
        x.set(2, 0, 4095 & ~Due.set(5));
        due.is("leave of one: the least", Due.set(0), x.leave(0, 5, 0));
        due.is("leave to a bishop, shut or not", 4094, x.leave(1, 0, 0));
        // 11 is LIKE 0 .. 4: one word, 11, leaves 5 .. 10 less those asked for.
        WellGivesOther y = new WellGivesOther();
        y.asker(0, 0);
        for (int t = 0; t < 5; t++) y.like(11, t, 1);
        due.is("leave by likes", Due.set(11, 10, 9, 8, 7, 6), y.leave(0, 5, 0));
        y.like(6, 7, 1);
        y.like(6, 8, 1);
        y.like(9, 10, 1);
        // 6 for 7 and 8; of 9 and 10 the lesser bits.
        due.is("leave the least", Due.set(11, 6, 9), y.leave(0, 5, 0));
        due.is("leave the least of", 3, y.leave(0, 5, 1));
        int[][] bad = {{2, 0, 0}, {-1, 0, 0}, {0, 12, 0}, {0, -1, 0}, {0, 0, 2}, {0, 0, -1}, {MIN, MAX, MIN}};
        for (int[] b : bad) due.is("leave bad", -2, x.leave(b[0], b[1], b[2]));
    }

    private static void gladdests() {
        WellGivesOther x = new WellGivesOther();
        x.asker(1, 0);
        x.asker(0, 0);
        // A CLERK gets the first, 3 by asking for 0, 1, 2; half of 3 is 1, as half of 2 by 0, 1.
        due.is("gladdest clerk", Due.set(0, 1), x.gladdest(0, 0));
        due.is("gladdest clerk how", 1, x.gladdest(0, 1));
        due.is("gladdest asker", Due.set(0, 1, 2), x.gladdest(1, 0));
        due.is("gladdest asker how", 3, x.gladdest(1, 1));
        Due.read(x, "gives 0;glads thing=1;costs 0;");
        x.force(1);
        due.is("gladdest by 0", Due.set(0), x.gladdest(1, 0));
        due.is("gladdest by 0 how", 1, x.gladdest(1, 1));
        Due.read(x, "gives 0;glads 0-thing-1;costs 0;");
        x.force(2);
        due.is("gladdest below 0", Due.set(1), x.gladdest(1, 0));
        due.is("gladdest below 0 how", -1, x.gladdest(1, 1));
        x.set(2, 1, 4095);
        due.is("gladdest none", -1, x.gladdest(1, 0));
        due.is("gladdest none how", -1000, x.gladdest(1, 1));
        int[][] bad = {{2, 0}, {-1, 0}, {0, 2}, {0, -1}, {MAX, MIN}};
        for (int[] b : bad) due.is("gladdest bad", -2000, x.gladdest(b[0], b[1]));
    }

    private static void gets() {
        WellGivesOther x = new WellGivesOther();
        x.asker(0, 0);
        due.is("get first", Due.set(1), x.get(0, 0, 0));
        due.is("get 2", Due.set(0, 1), x.get(0, 2, 0));
        due.is("get 2 costs", 2, x.get(0, 2, 1));
        due.is("get never", -1, x.get(0, 4, 0));
        due.is("get never costs", -1, x.get(0, 4, 1));
        due.is("get by 0", Due.set(0), x.get(0, 1, 0));
        due.is("get by 0 costs", 1, x.get(0, 1, 1));
        Due.read(x, "gives 0;glads 0;costs 9-words;");
        x.force(1);
        due.is("get cheaper by more", Due.set(1, 2, 3), x.get(0, 0, 0));
        due.is("get cheaper by more costs", 6, x.get(0, 0, 1));
        int[][] bad = {{1, 0, 0}, {-1, 0, 0}, {0, 12, 0}, {0, -1, 0}, {0, 0, 2}, {0, 0, -1}, {MIN, MAX, MIN}};
        for (int[] b : bad) due.is("get bad", -2, x.get(b[0], b[1], b[2]));
    }

    private static void maps() {
        WellGivesOther x = new WellGivesOther();
        Due.fill(x, 0, Due.set(0, 1, 2), 3, Due.set(3, 4), 0, 0, 5, Due.set(6), 6);
        // 3-0, 3-1, 3-2, 0-3 again, 0-4; none of itself.
        due.is("map", 4, x.map(0));
        Due.fill(x, 1, 4095, 0, 4095, 11);
        due.is("map all", 21, x.map(1));
        Due.fill(x, 2);
        due.is("map none", 0, x.map(2));
        Due.fill(x, 3, Due.set(5), 3);
        due.is("map one", 1, x.map(3));
        Due.fill(x, 3, Due.set(2, 5, 7), 9, Due.set(9), 2, Due.set(11), 0, Due.set(0), 11);
        due.is("map few", 4, x.map(3));
        x.sheet(3, -1, 0);
        due.is("map missing", -11, x.map(3));
        due.is("map sheet", -2, x.map(4));
        due.is("map sheet", -2, x.map(-1));
        int[][] wrong = {{1}, {1, 2, 3}, {4096, 0}, {-1, 0}, {1, 12}, {1, -1}, {1, 2, 3, 12}, {1, 2, -1, 0}};
        for (int[] w : wrong) {
            Due.fill(x, 3, w);
            due.is("map wrong", -2, x.map(3));
        }
        x.sheet(3, 0, 40);
        due.is("map of zeros", 0, x.map(3));
    }

    private static void nets() {
        WellGivesOther x = new WellGivesOther();
        int[] none = {0, 0, 0, 0};
        for (int what = 0; what < 4; what++) due.is("net none " + what, none[what], x.net(what));
        x.like(1, 2, 1);
        x.like(1, 3, 1);
        due.is("nearest 1", 1, x.net(1));
        x.like(1, 2, 0);
        x.like(1, 3, 0);
        x.like(11, 10, 1);
        x.like(10, 9, 1);
        x.like(9, 11, 1);
        x.like(0, 1, 1);
        int[] some = {1, 9, 2, 4};
        for (int what = 0; what < 4; what++) due.is("net some " + what, some[what], x.net(what));
        x.like(10, 3, 1);
        due.is("nearest", 10, x.net(1));
        due.is("nearest how many", 3, x.net(2));
        due.is("a way is no clique", 1, x.net(0));
        x.like(3, 0, 1);
        x.like(0, 10, 1);
        due.is("another clique", 2, x.net(0));
        due.is("twos", 7, x.net(3));
        for (int a = 0; a < 12; a++) for (int b = 0; b < a; b++) x.like(a, b, 1);
        int[] all = {220, 0, 11, 66};
        for (int what = 0; what < 4; what++) due.is("net all " + what, all[what], x.net(what));
        due.is("net bad", -2, x.net(4));
        due.is("net bad", -2, x.net(-1));
        due.is("net bad", -2, x.net(MIN));
    }

    private static void shares() {
        WellGivesOther x = new WellGivesOther();
        x.asker(0, 0);
        int[][] want = {{0, 1}, {1, 12}, {1, 6}, {1, 4}, {1, 3}, {5, 12}, {1, 2}, {7, 12}, {2, 3}, {3, 4}, {5, 6}, {11, 12}, {1, 1}};
        for (int n = 0; n <= 12; n++) {
            x.set(3, 0, (1 << n) - 1);
            due.is("share above " + n, want[n][0], x.share(0, 0));
            due.is("share below " + n, want[n][1], x.share(0, 1));
        }
        int[][] bad = {{1, 0}, {-1, 0}, {0, 2}, {0, -1}, {MAX, MIN}};
        for (int[] b : bad) due.is("share bad", -4611686018427387904L, x.share(b[0], b[1]));
    }
}
