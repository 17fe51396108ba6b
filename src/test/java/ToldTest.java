/** Promises 21 to 27: tells, film, drawn, chance, image, back, count. */
public final class ToldTest {
    private static final Due due = new Due();
    private static final int MIN = Integer.MIN_VALUE, MAX = Integer.MAX_VALUE;

    public static void main(String[] args) {
        tellings();
        tellingsRefused();
        films();
        drawings();
        chances();
        images();
        counts();
        due.end("ToldTest");
    }

    private static void tells(WellGivesOther x, int sheet, int one, int... want) {
        for (int what = 0; what < 8; what++) due.is("tells " + what, want[what], x.tells(sheet, one, what));
    }

    private static void tellings() {
        WellGivesOther x = new WellGivesOther();
        x.asker(0, 0);
        x.asker(3, 3);
        x.set(0, 0, 3);
        Due.read(x, "gives 3;glads 0;costs 0;");
        Due.read(x, "gives 14;glads 0;costs 0;");
        Due.read(x, "gives number;glads 0;costs 0;");
        // By asking for 0 .. 4 alone, the fourth of eleven each: 4, 4, 4, 4, 3.
        Due.fill(x, 0, 4, 4, 4, 4, 3);
        // DAYS 3, 14, 25, 36, 47, 58, 69, 80, 91.
        tells(x, 0, 0, -1, 1 | 32, 1023, 9, 3, Due.set(5, 6, 7, 8, 9, 10, 11), 1 | 2 | 4, 3);
        // A BISHOP's NUMBER 3 gives the same on any day, by any text.
        tells(x, 0, 1, -1, 1 | 8 | 32, 8, 100, 0, 4095, 15, 3);
        Due.fill(x, 1, 4, 4, 4, 3);
        due.is("otherwise", 3, x.tells(1, 0, 0));
        due.is("otherwise days", 0, x.tells(1, 0, 3));
        due.is("otherwise least", -1, x.tells(1, 0, 4));
        Due.fill(x, 3, 12);
        tells(x, 3, 0, 0, 0, 0, 0, -1, 0, 0, 0);
        // Day 100 is not told of: by DAY, 99 at most, the hundredth and on would be the same.
        Due.read(x, "gives day=100;glads 0;costs 0;");
        x.force(4);
        Due.fill(x, 3, 2);
        due.is("days up to 99", 0, x.tells(3, 0, 3));
        due.is("least up to 99", -1, x.tells(3, 0, 4));
        Due.fill(x, 3, 1);
        due.is("all days up to 99", 100, x.tells(3, 0, 3));
        x.force(0);
        x.set(2, 0, Due.set(5));
        // THING 5 is not OPEN, but 4 is still the fourth.
        due.is("things as 5 is shut", Due.set(5, 6, 7, 8, 9, 10, 11), x.tells(0, 0, 5));
        x.set(2, 0, Due.set(0));
        // 0 is SHUT: 5 by asking for 1 alone. Were it not: so.
        due.is("otherwise as 0 is shut", 1, x.tells(0, 0, 0));
        due.is("things as 0 is shut", Due.set(0), x.tells(0, 0, 5));
        due.is("askers as 0 is shut", 2, x.tells(0, 0, 7));
        x.set(2, 0, 4095);
        Due.fill(x, 2, -1, -1, -1, -1, -1, -1, -1, -1, -1, -1, -1, -1);
        tells(x, 2, 0, -1, 1 | 2 | 4 | 16 | 32, 1023, 100, 0, 0, 31, 1);
        due.is("no such thing is given", 0, told(x, 3, 12));
        due.is("no such thing is given", 0, told(x, 3, -2));
        // Nothing truly became otherwise.
        due.is("day", 3, x.count(2));
        due.is("rule", 0, x.count(5));
        due.is("number", 0, x.told(0, 1));
        due.is("kind", 0, x.told(0, 5));
        due.is("shut", 4095, x.told(0, 2));
    }

    private static int told(WellGivesOther x, int sheet, int number) {
        Due.fill(x, sheet, number);
        return x.tells(sheet, 0, 0);
    }

    private static void tellingsRefused() {
        WellGivesOther x = new WellGivesOther();
        x.asker(0, 0);
        x.sheet(0, 0, 13);
        x.sheet(1, 0, 0);
        int[][] bad = {{-1, 0, 0}, {4, 0, 0}, {2, 1, 0}, {2, -1, 0}, {2, 0, 8}, {2, 0, -1}, {0, 0, 0}, {0, 0, 7}, {MIN, MAX, MIN}};
        for (int[] b : bad) due.is("tells bad", -2, x.tells(b[0], b[1], b[2]));
        due.is("tells missing", -11, x.tells(2, 0, 0));
        tells(x, 1, 0, -1, 63, 1023, 100, 0, 4095, 1, 1);
    }

    private static void films() {
        WellGivesOther x = new WellGivesOther();
        x.asker(1, 0);
        x.sheet(0, 2, 1);
        due.is("film", 12, x.film(0, 0));
        due.is("it tells so", -1, x.tells(0, 0, 0));
        due.is("it is of bytes", -13, x.askers(0, 2, 0, 0));
        due.is("it is of 12", -12, x.cell(0, 12, 0));
        due.is("the last is there", 1, x.cell(0, 11, 0));
        // 1 for 0, 0 for all others.
        Due.fill(x, 1, 1, 0, 0, 0, 0, 0, 0, 0, 0, 0, 0, 0);
        due.is("as it films", -1, x.tells(1, 0, 0));
        x.set(2, 0, 4095 & ~Due.set(7));
        due.is("film of one", 11, x.film(3, 0));
        due.is("nothing in it", -1, x.tells(3, 0, 0));
        due.is("nothing changed", 0, x.told(0, 3));
        int[][] bad = {{-1, 0}, {4, 0}, {0, 1}, {0, -1}, {MIN, MAX}};
        for (int[] b : bad) due.is("film bad", -2, x.film(b[0], b[1]));
    }

    private static void drawings() {
        WellGivesOther x = new WellGivesOther();
        x.asker(0, 0);
        x.set(0, 0, 5);
        due.is("drawn none", 0, x.drawn(77, 0, 0));
        x.set(3, 0, 7);
        due.is("drawn none", 3, x.drawn(77, 0, 0));
        x.set(3, 0, 0);
        // The same askings, truly, on another well.
        int[] seeds = {0, 1, -1, 123456789, MIN, MAX};
        for (int seed : seeds) {
            WellGivesOther y = new WellGivesOther();
            y.asker(0, 0);
            y.set(0, 0, 5);
            int z = seed;
            for (int n = 0; n <= 40; n++) {
                if (n % 8 == 0 || n < 3) due.is("drawn " + n, Integer.bitCount(y.told(0, 3)), x.drawn(seed, 0, n));
                z = z * 1103515245 + 12345;
                y.ask(0, 1 << ((z >>> 9) % 12));
                y.day();
            }
        }
        due.is("day stays", 5, x.count(2));
        due.is("had stays", 0, x.told(0, 3));
        due.is("shut stays", 0, x.told(0, 2));
        int[][] bad = {{1, 0}, {-1, 0}, {0, 41}, {0, -1}, {MIN, MAX}};
        for (int[] b : bad) due.is("drawn bad", -2, x.drawn(0, b[0], b[1]));
    }

    private static void chances() {
        WellGivesOther x = new WellGivesOther();
        x.asker(5, 3);
        x.asker(0, 3);
        for (int k = 0; k <= 12; k++) {
            for (int m = 1; m <= 20; m += 19) {
                int enough = 0;
                for (int i = 0; i < m; i++) if (x.drawn(MAX - 3 + i, 1, 6) >= k) enough++;
                long above = x.chance(MAX - 3, m, 1, k, 0);
                long below = x.chance(MAX - 3, m, 1, k, 1);
                due.is("chance", enough * below, m * above);
                for (int d = 2; d <= 20; d++) due.isTrue("lowest terms", above % d != 0 || below % d != 0);
            }
        }
        // SEED and each 1 more, not 1 less: some seeds tell these apart.
        WellGivesOther y = new WellGivesOther();
        y.asker(0, 0);
        Due.read(y, "gives had*5;glads 0;costs 0;");
        y.force(1);
        int apart = 0;
        for (int seed = -20; seed < 20; seed++) {
            int enough = 0;
            int less = 0;
            for (int i = 0; i < 3; i++) if (y.drawn(seed + i, 0, 6) >= 5) enough++;
            for (int i = 0; i < 3; i++) if (y.drawn(seed - i, 0, 6) >= 5) less++;
            due.is("chance by seeds", enough == 3 ? 1 : enough, y.chance(seed, 3, 0, 5, 0));
            if (enough != less) apart++;
        }
        due.isTrue("seeds tell apart", apart > 0);
        // OLD had six by six askings.
        due.is("surely", 1, x.chance(1, 20, 0, 6, 0));
        due.is("surely", 1, x.chance(1, 20, 0, 6, 1));
        due.is("never", 0, x.chance(1, 20, 0, 7, 0));
        due.is("never", 1, x.chance(1, 20, 0, 7, 1));
        int[][] bad = {{0, 0, 0, 0}, {21, 0, 0, 0}, {1, 2, 0, 0}, {1, -1, 0, 0}, {1, 0, 13, 0}, {1, 0, -1, 0}, {1, 0, 0, 2},
            {1, 0, 0, -1}, {MIN, MAX, MIN, MAX}};
        for (int[] b : bad) due.is("chance bad", WellGivesOther.NO, x.chance(0, b[0], b[1], b[2], b[3]));
    }

    private static void images() {
        WellGivesOther x = new WellGivesOther();
        due.is("back without", -3, x.back());
        x.asker(2, 4);
        x.asker(1, 5);
        x.like(3, 4, 1);
        x.set(0, 0, 9);
        for (int what = 2; what < 5; what++) x.set(what, 1, 40 + what);
        Due.read(x, "gives 1;glads 1;costs 1;");
        x.force(1);
        due.is("image", 2, x.image());
        for (int turn = 0; turn < 2; turn++) {
            x.like(3, 4, 0);
            x.like(5, 6, 1);
            x.day();
            x.force(0);
            for (int what = 1; what < 5; what++) x.set(what, 1, 0);
            x.set(1, 0, 8);
            x.asker(0, 0);
            Due.read(x, "gives 2;glads 2;costs 2;");
            Due.type(x, "gives");
            Due.fill(x, turn, 5, 6);
            due.is("back", 2, x.back());
            due.is("askers", 2, x.count(0));
            due.is("none such", -2, x.told(2, 1));
            due.is("like", 16, x.told(3, 7));
            due.is("not like", 0, x.told(5, 7));
            due.is("day", 9, x.count(2));
            due.is("rule", 1, x.count(5));
            due.is("texts stay", 3 + turn, x.count(3));
            due.is("the tape stays", 5, x.count(4));
            due.is("number", 4, x.told(0, 1));
            due.is("number", 5, x.told(1, 1));
            for (int what = 2; what < 5; what++) due.is("kept " + what, 40 + what, x.told(1, what));
            due.is("kind", 1, x.told(1, 5));
            due.is("the sheet stays", 1, x.cell(turn, 1, 0));
            x.text();
        }
        x.asker(5, 1);
        due.is("image anew", 3, x.image());
        x.set(1, 2, 2);
        due.is("back anew", 3, x.back());
        due.is("number anew", 1, x.told(2, 1));
        // One who comes where another went has nothing of it.
        WellGivesOther y = new WellGivesOther();
        y.image();
        y.asker(0, 1);
        y.ask(0, 1);
        due.is("back to none", 0, y.back());
        due.is("asker anew", 0, y.asker(3, 2));
        int[] fresh = {0, 2, 0, 0, 0, 3};
        for (int what = 1; what < 6; what++) due.is("fresh " + what, fresh[what], y.told(0, what));
    }

    private static void counts() {
        WellGivesOther x = new WellGivesOther();
        x.asker(0, 0);
        x.like(0, 1, 1);
        x.like(0, 2, 1);
        x.set(0, 0, 3);
        for (int i = 0; i < 3; i++) Due.read(x, "gives 1;glads 1;costs 1;");
        Due.type(x, "12345");
        x.force(2);
        int[] want = {1, 2, 3, 4, 5, 2};
        for (int what = 0; what < 6; what++) due.is("count " + what, want[what], x.count(what));
        due.is("count bad", -2, x.count(6));
        due.is("count bad", -2, x.count(-1));
        due.is("count bad", -2, x.count(MIN));
    }
}
