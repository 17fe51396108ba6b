/** Promises 1 to 7: a new object, like, set, asker, told, asks, glad. */
public final class ThingsTest {
    private static final Due due = new Due();
    private static final int MIN = Integer.MIN_VALUE, MAX = Integer.MAX_VALUE;

    public static void main(String[] args) {
        newObject();
        likes();
        sets();
        comers();
        tellings();
        opens();
        picks();
        shuts();
        costs();
        glads();
        due.end("ThingsTest");
    }

    private static void newObject() {
        WellGivesOther x = new WellGivesOther();
        int[] counts = {0, 0, 0, 1, 0, 0};
        for (int what = 0; what < 6; what++) due.is("new count " + what, counts[what], x.count(what));
        for (int t = 0; t < 12; t++) due.is("new told like", 0, x.told(t, 7));
        for (int s = 0; s < 4; s++) due.is("new map", -11, x.map(s));
        due.is("new told asker", -2, x.told(0, 1));
        due.is("new back", -3, x.back());
    }

    private static void likes() {
        WellGivesOther x = new WellGivesOther();
        due.is("like", 0, x.like(0, 11, 1));
        due.is("like again", 1, x.like(0, 11, 1));
        due.is("like turned", 1, x.like(11, 0, 1));
        due.is("told 0", 2048, x.told(0, 7));
        due.is("told 11", 1, x.told(11, 7));
        due.is("unlike", 1, x.like(11, 0, 0));
        due.is("unlike again", 0, x.like(0, 11, 0));
        due.is("told 0 then", 0, x.told(0, 7));
        int[][] bad = {{-1, 0, 1}, {12, 0, 1}, {0, -1, 1}, {0, 12, 1}, {5, 5, 1}, {0, 1, -1}, {0, 1, 2},
            {MIN, 0, 1}, {0, MAX, 1}, {0, 1, MIN}};
        for (int[] b : bad) due.is("like bad", -2, x.like(b[0], b[1], b[2]));
        due.is("twos", 0, x.count(1));
    }

    private static void sets() {
        WellGivesOther x = new WellGivesOther();
        x.asker(0, 3);
        int[] was = {0, 3, 0, 0, 0};
        int[] most = {999, 9, 4095, 4095, 9999};
        for (int what = 0; what < 5; what++) {
            due.is("set most " + what, was[what], x.set(what, 0, most[what]));
            due.is("set above " + what, -2, x.set(what, 0, most[what] + 1));
            due.is("set below " + what, -2, x.set(what, 0, -1));
            due.is("told most " + what, most[what], x.told(0, what));
            due.is("set least " + what, most[what], x.set(what, 0, 0));
            due.is("told least " + what, 0, x.told(0, what));
            if (what > 0) due.is("set none such " + what, -2, x.set(what, 1, 0));
            if (what > 0) due.is("set none such " + what, -2, x.set(what, -1, 0));
        }
        due.is("set day of none", 0, x.set(0, 99, 7));
        due.is("set day of none", 7, x.set(0, MIN, 8));
        due.is("set what", -2, x.set(5, 0, 0));
        due.is("set what", -2, x.set(-1, 0, 0));
        due.is("set what", -2, x.set(MAX, 0, 0));
        due.is("day", 8, x.count(2));
    }

    private static void comers() {
        WellGivesOther x = new WellGivesOther();
        int[][] bad = {{-1, 0}, {6, 0}, {0, -1}, {0, 10}, {MIN, 0}, {0, MAX}};
        for (int[] b : bad) due.is("asker bad", -2, x.asker(b[0], b[1]));
        for (int i = 0; i < 5; i++) due.is("asker", i, x.asker(5 - i, 9 - i));
        due.is("asker full", -4, x.asker(0, 0));
        due.is("asker bad ahead of full", -2, x.asker(6, 0));
        for (int i = 0; i < 5; i++) {
            due.is("told kind", 5 - i, x.told(i, 5));
            due.is("told number", 9 - i, x.told(i, 1));
            for (int what = 2; what < 5; what++) due.is("told as one comes", 0, x.told(i, what));
        }
        due.is("count", 5, x.count(0));
    }

    private static void tellings() {
        WellGivesOther x = new WellGivesOther();
        x.set(0, 0, 40);
        due.is("told day of none such", 40, x.told(99, 0));
        due.is("told day of none such", 40, x.told(MIN, 0));
        due.is("told like bad", -2, x.told(12, 7));
        due.is("told like bad", -2, x.told(-1, 7));
        for (int what = 1; what < 7; what++) due.is("told none such", -2, x.told(0, what));
        x.asker(1, 0);
        // A CLERK gets the first that is OPEN: 3 sets of 3 leave none ahead of THING 3.
        due.is("told never clerk", 0xff0, x.told(0, 6));
        x.set(2, 0, 0x00f);
        due.is("told never clerk shut", 0xf0f, x.told(0, 6));
        WellGivesOther y = new WellGivesOther();
        y.asker(0, 0);
        Due.read(y, "gives words=1 and had=0;glads 0;costs 0;");
        y.force(1);
        // By one word the second that is OPEN, by two or three the first.
        due.is("told never by words", 0xff0, y.told(0, 6));
        y.set(2, 0, 0x1fe);
        due.is("told never by words", 0x1fe, y.told(0, 6));
        due.is("told what", -2, x.told(0, 8));
        due.is("told what", -2, x.told(0, -1));
        due.is("told one", -2, x.told(-1, 1));
    }

    /** A well where 0 is LIKE 1 and 2, 1 LIKE 2, 3 LIKE 4, 4 LIKE 5. */
    private static WellGivesOther likingWell(int kind, int number) {
        WellGivesOther x = new WellGivesOther();
        x.like(0, 1, 1);
        x.like(0, 2, 1);
        x.like(1, 2, 1);
        x.like(3, 4, 1);
        x.like(4, 5, 1);
        x.asker(kind, number);
        return x;
    }

    private static void opens() {
        int shut = Due.set(6), had = Due.set(7), nextHad = Due.set(8);
        int all = 4095;
        int like3 = Due.set(4), like05 = Due.set(1, 2, 4), likeTwice01 = Due.set(2);
        int[][] want = {
            {all & ~Due.set(3) & ~like3 & ~shut, all & ~Due.set(0, 5) & ~like05 & ~shut, all & ~Due.set(0, 1, 2) & ~shut},
            {all & ~Due.set(3) & ~shut, all & ~Due.set(0, 5) & ~shut, all & ~Due.set(0, 1) & ~likeTwice01 & ~shut},
            {all & ~Due.set(3) & ~like3 & ~shut & ~nextHad, all & ~Due.set(0, 5) & ~like05 & ~shut & ~nextHad,
                all & ~Due.set(0, 1, 2) & ~shut & ~nextHad},
            {all & ~Due.set(3), all & ~Due.set(0, 5), all & ~Due.set(0, 1) & ~likeTwice01},
            {all & ~Due.set(3, 4, 5) & ~shut & ~nextHad, all & ~Due.set(0, 5, 1, 2, 4, 3) & ~shut & ~nextHad,
                all & ~Due.set(0, 1, 2) & ~shut & ~nextHad},
            {all & ~Due.set(3) & ~like3 & ~shut & ~had, all & ~Due.set(0, 5) & ~like05 & ~shut & ~had,
                all & ~Due.set(0, 1, 2) & ~shut & ~had},
        };
        int[] asked = {Due.set(3), Due.set(0, 5), Due.set(0, 1)};
        for (int kind = 0; kind < 6; kind++) {
            WellGivesOther x = likingWell(kind, 0);
            x.asker(kind, 0);
            x.set(2, 0, shut);
            x.set(3, 0, had);
            x.set(3, 1, nextHad);
            for (int i = 0; i < 3; i++) due.is("open to " + kind + " by " + asked[i], want[kind][i], x.asks(0, asked[i], 0));
            // Behind the last one is 0.
            boolean twin = kind == 2 || kind == 4;
            due.is("open to the last of " + kind, twin ? 0 : 1, x.asks(1, 1, 0) >> 7 & 1);
            due.is("open by all", 0, x.asks(0, 4095, 0));
        }
        // 0 is LIKE one of it: OPEN to a CLERK and a BISHOP; LIKE two of it: to none.
        for (int kind = 0; kind < 6; kind++) {
            WellGivesOther x = likingWell(kind, 0);
            due.is("0 by 1 to " + kind, kind == 1 || kind == 3 ? 1 : 0, x.asks(0, Due.set(1), 0) & 1);
            due.is("0 by 1, 2 to " + kind, 0, x.asks(0, Due.set(1, 2), 0) & 1);
            due.is("2 by 0 to " + kind, kind == 1 || kind == 3 ? 4 : 0, x.asks(0, Due.set(0, 11), 0) & 4);
        }
        // One who is alone is not held off from what it HAD itself.
        WellGivesOther x = likingWell(2, 0);
        x.set(3, 0, 4095);
        due.is("open to a lone twin", 4095 & ~7, x.asks(0, 1, 0));
        int[][] bad = {{1, 1, 0}, {-1, 1, 0}, {0, 0, 0}, {0, 4096, 0}, {0, -1, 0}, {0, 1, 4}, {0, 1, -1}, {0, MIN, 0}, {MAX, 1, 0}};
        for (int[] b : bad) due.is("asks bad", -2, x.asks(b[0], b[1], b[2]));
    }

    private static void picks() {
        // By asking for 0 eleven are OPEN: 1 .. 11; THE RULE gives DAY, 99 at most.
        int[][] dayAndGiven = {{0, 1}, {3, 4}, {10, 11}, {11, 1}, {98, 11}, {99, 1}, {100, 1}, {999, 1}};
        for (int[] d : dayAndGiven) {
            for (int kind = 0; kind < 6; kind++) {
                WellGivesOther x = new WellGivesOther();
                x.asker(kind, 7);
                x.set(0, 0, d[0]);
                int[] want = {d[1], 1, 11, 8, d[0] % 2 == 0 ? d[1] : 11, d[1]};
                due.is("given to " + kind + " on day " + d[0], want[kind], x.asks(0, 1, 1));
                due.is("nothing given to " + kind, -1, x.asks(0, 4095, 1));
            }
        }
        WellGivesOther x = new WellGivesOther();
        x.asker(0, 9);
        x.asker(3, 9);
        due.is("text", 1, Due.read(x, "gives 0-3; glads 0; costs 0;"));
        x.force(1);
        // -3 modulo 11 is 8: the ninth of 1 .. 11; 9 modulo 2 is 1.
        due.is("given below 0", 9, x.asks(0, 1, 1));
        due.is("text", 2, Due.read(x, "gives (ways=11)*2+(ways=4)*6; glads 0; costs 0;"));
        due.is("text", 3, Due.read(x, "gives thing*5+words+number+had-10; glads 0; costs 0;"));
        due.is("text", 4, Due.read(x, "gives 150; glads 0; costs 0;"));
        due.is("text", 5, Due.read(x, "gives 0-150; glads 0; costs 0;"));
        x.force(2);
        due.is("given by ways: of eleven", 3, x.asks(0, 1, 1));
        due.is("given by ways: of two", 3, x.asks(0, 4095 & ~Due.set(3, 9), 1));
        due.is("given by ways: of four", 7, x.asks(0, 4095 & ~Due.set(3, 5, 7, 9), 1));
        x.force(3);
        x.set(3, 0, Due.set(2, 4));
        // 0 + 3 + 9 + 2 - 10 is 4: the fifth of 3 .. 11.
        due.is("given by words, number, had", 7, x.asks(0, Due.set(0, 1, 2), 1));
        x.force(4);
        // 99 modulo 10 is 9, -99 modulo 10 is 1.
        due.is("given 99 at most", 11, x.asks(0, Due.set(0, 1), 1));
        x.force(5);
        due.is("given -99 at least", 3, x.asks(0, Due.set(0, 1), 1));
        due.is("given by number", 3, x.asks(1, 4095 & ~Due.set(1, 3), 1));
    }

    private static void shuts() {
        int[] want = {Due.set(4, 9), Due.set(4), Due.set(4, 9, 3, 5), Due.set(4), Due.set(4, 9, 3, 5), 0};
        for (int kind = 0; kind < 6; kind++) {
            due.is("shut by asking to " + kind, want[kind], likingWell(kind, 0).asks(0, Due.set(4, 9), 2));
        }
    }

    private static void costs() {
        WellGivesOther x = new WellGivesOther();
        x.asker(0, 4);
        due.is("costs words", 12, x.asks(0, 4095, 3));
        Due.read(x, "gives 0; glads 0; costs words*50 ;");
        Due.read(x, "gives 0; glads 0; costs 1-words ;");
        Due.read(x, "gives 0; glads 0; costs thing+ways*10+number+had*20+day ;");
        x.force(1);
        due.is("costs 50", 50, x.asks(0, 8, 3));
        due.is("costs 99 at most", 99, x.asks(0, 9, 3));
        x.force(2);
        due.is("costs 0 at least", 0, x.asks(0, 9, 3));
        x.force(3);
        x.set(3, 0, 7);
        x.set(0, 0, 2);
        due.is("costs with no thing, no ways", 4 + 60 + 2, x.asks(0, 1, 3));
    }

    private static void glads() {
        // glads thing*40-99: -99, -59, -19, 21, 61, 101 (99), ..
        int[] v = {-99, -59, -19, 21, 61, 99};
        for (int kind = 0; kind < 6; kind++) {
            WellGivesOther x = new WellGivesOther();
            x.asker(kind, 9);
            Due.read(x, "gives 0; glads thing*40-99; costs 0;");
            x.force(1);
            for (int t = 0; t < 6; t++) {
                int twice = Math.max(-99, Math.min(99, 2 * v[t]));
                int[] want = {v[t], v[t] / 2, v[t], v[t] / 2 + 9, twice, 9};
                due.is("glad " + kind + " of " + t, want[kind], x.glad(0, t));
            }
            x.asker(0, 0);
            x.set(3, 1, Due.set(3));
            int[] want = {21, 10, 0, 19, 0, 9};
            due.is("glad " + kind + " of what the next one had", want[kind], x.glad(0, 3));
        }
        WellGivesOther x = new WellGivesOther();
        x.asker(0, 5);
        Due.read(x, "gives 0; glads words*9+ways*9+number+day+had; costs 0;");
        Due.read(x, "gives 0; glads 0-100*thing; costs 0;");
        x.force(1);
        x.set(0, 0, 30);
        x.set(3, 0, 15);
        due.is("glad without words and ways", 39, x.glad(0, 11));
        x.force(2);
        due.is("glad -99 at least", -99, x.glad(0, 1));
        // A lone TWIN has no next one.
        WellGivesOther lone = new WellGivesOther();
        lone.asker(2, 0);
        lone.set(3, 0, 4095);
        due.is("glad lone twin", 8, lone.glad(0, 8));
        int[][] bad = {{1, 0}, {-1, 0}, {0, 12}, {0, -1}, {MIN, MAX}};
        for (int[] b : bad) due.is("glad bad", -1000, x.glad(b[0], b[1]));
    }
}
