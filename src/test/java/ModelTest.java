/** Long runs of calls, by a fixed row of numbers, that the class and the model must answer alike. */
public final class ModelTest {
    private static final Due due = new Due("all promises, against Model");
    private static long state;
    private static WellGivesOther x;
    private static Model m;
    private static String where;
    private static boolean wild;
    private static int calls;
    private static final int RUNS = 900, MOST_CALLS = 512;
    private static final int[] WILD = {Integer.MIN_VALUE, Integer.MIN_VALUE + 1, -4096, -12, -2, -1, 0, 1, 2, 3, 4, 5, 6, 7, 9,
        10, 11, 12, 13, 31, 32, 33, 40, 41, 159, 160, 255, 256, 999, 1000, 4095, 4096, 9999, 10000, 65535, 65536,
        Integer.MAX_VALUE - 1, Integer.MAX_VALUE};

    public static void main(String[] args) {
        due.sentence("the class and the model answer alike");
        for (int run = 0; run < RUNS; run++) {
            state = 1000003L * run + 17;
            x = new WellGivesOther();
            m = new Model();
            wild = run % 8 == 7;
            calls = 0;
            where = "run " + run + " call ";
            if (run % 4 != 0) setUp(run);
            for (int step = 0; step < MOST_CALLS && calls < MOST_CALLS; step++) step(run);
        }
        due.end();
    }

    private static int roll(int n) {
        state = state * 6364136223846793005L + 1442695040888963407L;
        return (int) ((state >>> 33) % n);
    }

    /** Mostly a number from least to most, now and then one that is just or far outside. */
    private static int from(int least, int most) {
        if (wild && roll(3) == 0) return WILD[roll(WILD.length)];
        int odd = roll(40);
        if (odd == 0) return least - 1;
        if (odd == 1) return most + 1;
        if (odd == 2) return roll(2) == 0 ? Integer.MIN_VALUE : Integer.MAX_VALUE;
        return least + roll(most - least + 1);
    }

    private static void setUp(int run) {
        for (int i = 0; i < 10; i++) pass("like", 0, roll(12), roll(12), 1, 0, 0);
        int askers = 1 + run % 5;
        for (int i = 0; i < askers; i++) pass("asker", 2, roll(6), roll(10), 0, 0, 0);
    }

    private static int one() { return from(0, Math.max(0, m.all.size() - 1)); }

    private static int someSet() {
        int kind = roll(3);
        if (kind == 0) return 1 << roll(12);
        if (kind == 1) return 1 << roll(12) | 1 << roll(12) | 1 << roll(12);
        return from(1, 4095);
    }

    private static void step(int run) {
        int call = roll(42);
        if (call >= 34) call = roll(2) == 0 ? 10 : call - 34 + 2;
        switch (call) {
            case 0: pass("like", 0, from(0, 11), from(0, 11), from(0, 1), 0, 0); break;
            case 1: pass("set", 1, from(0, 4), one(), roll(3) == 0 ? from(0, 999) : roll(10), 0, 0); break;
            case 2: if (roll(6) == 0) pass("asker", 2, from(0, 5), from(0, 9), 0, 0, 0);
                    else pass("set", 1, 2 + roll(2), one(), from(0, 4095) & from(0, 4095), 0, 0); break;
            case 3: pass("told", 3, one(), from(0, 7), 0, 0, 0); break;
            case 4: pass("asks", 4, one(), someSet(), from(0, 3), 0, 0); break;
            case 5: pass("glad", 5, one(), from(0, 11), 0, 0, 0); break;
            case 6: case 7: writeText(); break;
            case 8: pass("force", 8, from(0, m.texts.size() - 1), 0, 0, 0, 0); break;
            case 9: case 10: pass("ask", 9, one(), someSet(), 0, 0, 0); break;
            case 11: pass("day", 10, 0, 0, 0, 0, 0); break;
            case 12: pass("row", 11, from(0, 3), one(), from(0, 5), 0, 0); break;
            case 13: pass("rows", 12, from(0, 3), one(), 0, 0, 0); break;
            case 14: if (run % 8 == 1) pass("leave", 13, one(), from(0, 11), from(0, 1), 0, 0); break;
            case 15: pass("gladdest", 14, one(), from(0, 1), 0, 0, 0); break;
            case 16: pass("get", 15, one(), from(0, 11), from(0, 1), 0, 0); break;
            case 17: pass("map", 16, from(0, 3), 0, 0, 0, 0); break;
            case 18: pass("net", 17, from(0, 3), 0, 0, 0, 0); break;
            case 19: pass("share", 18, one(), from(0, 1), 0, 0, 0); break;
            case 20: case 21: pass("tells", 19, from(0, 3), one(), from(0, 7), 0, 0); break;
            case 22: pass("film", 20, from(0, 3), one(), 0, 0, 0); break;
            case 23: pass("drawn", 21, from(0, 100000), one(), from(0, 40), 0, 0); break;
            case 24: pass("chance", 22, from(0, 9999), from(1, 20), one(), from(0, 12), from(0, 1)); break;
            case 25: if (roll(4) == 0) pass("image", 23, 0, 0, 0, 0, 0); break;
            case 26: if (roll(4) == 0) pass("back", 24, 0, 0, 0, 0, 0); break;
            case 27: pass("count", 25, from(0, 5), 0, 0, 0, 0); break;
            case 28: pass("sheet", 26, from(0, 3), from(-1, 2), from(0, roll(2) == 0 ? 40 : 8), 0, 0); break;
            case 29: case 30: fillSheet(); break;
            case 31: pass("copy", 28, from(0, 3), from(0, 8), from(0, 3), from(0, 8), from(0, 8)); break;
            case 32: pass("askers", 29, from(0, 3), from(0, 2), from(0, 12), from(0, 5), 0); break;
            default: pass("taken", 30, one(), from(0, 5), 0, 0, 0); break;
        }
    }

    private static void fillSheet() {
        int sheet = from(0, 3);
        int size = 1 + roll(8);
        pass("sheet", 26, sheet, roll(4) == 0 ? roll(3) : 2, size, 0, 0);
        int style = roll(4);
        for (int i = 0; i < size; i++) {
            int v = style == 0 ? from(-300, 70000) : style == 1 || i % 2 == 0 ? someSet() : roll(14) - 1;
            pass("cell", 27, sheet, i, style == 3 ? roll(12) : v, 0, 0);
        }
    }

    private static final String[] PIECES = {"thing", "words", "ways", "number", "day", "had", "or", "and", "not",
        "gives", "glads", "costs", "(", ")", ";", "+", "-", "*", "<", "=", "7", "12", "9999", "12345", " ", "\n", "x", "%", "A"};

    private static void writeText() {
        StringBuilder made = new StringBuilder("gives ");
        made.append(e(0)).append(" ; glads ").append(e(0)).append(";\ncosts ").append(e(0)).append(" ;");
        int spoil = roll(3);
        if (spoil == 0) {
            int at = roll(made.length());
            int much = Math.min(roll(4), made.length() - at);
            made.replace(at, at + much, PIECES[roll(PIECES.length)]);
        }
        for (int i = 0; i < made.length(); i++) pass("feed", 6, made.charAt(i), 0, 0, 0, 0);
        if (roll(8) != 0) pass("text", 7, 0, 0, 0, 0, 0);
        if (m.texts.size() > 1 && roll(2) == 0) pass("force", 8, m.texts.size() - 1, 0, 0, 0, 0);
    }

    private static String e(int deep) {
        switch (deep > 6 ? 9 : roll(13 - deep)) {
            case 0: return e(deep + 1) + " or " + e(deep + 1);
            case 1: return e(deep + 1) + " and " + e(deep + 1);
            case 2: return "not " + e(deep + 1);
            case 3: return "-" + e(deep + 1);
            case 4: return "(" + e(deep + 1) + ")";
            case 5: return e(deep + 1) + "<" + e(deep + 1);
            case 6: return e(deep + 1) + "=" + e(deep + 1);
            case 7: return e(deep + 1) + "+" + e(deep + 1);
            case 8: return e(deep + 1) + "*" + e(deep + 1);
            case 9: return "" + roll(roll(2) == 0 ? 20 : 10000);
            default: return PIECES[roll(6)];
        }
    }

    /** A call on both; an object's 513th call is not made. */
    private static void pass(String name, int call, int a, int b, int c, int d, int e) {
        if (calls >= MOST_CALLS) return;
        String told = where + calls + ' ' + name + "(" + a + ", " + b + ", " + c + ", " + d + ", " + e + ")";
        calls++;
        due.is(told, model(call, a, b, c, d, e), real(call, a, b, c, d, e));
    }

    private static long real(int call, int a, int b, int c, int d, int e) {
        switch (call) {
            case 0: return x.like(a, b, c);
            case 1: return x.set(a, b, c);
            case 2: return x.asker(a, b);
            case 3: return x.told(a, b);
            case 4: return x.asks(a, b, c);
            case 5: return x.glad(a, b);
            case 6: return x.feed(a);
            case 7: return x.text();
            case 8: return x.force(a);
            case 9: return x.ask(a, b);
            case 10: return x.day();
            case 11: return x.row(a, b, c);
            case 12: return x.rows(a, b);
            case 13: return x.leave(a, b, c);
            case 14: return x.gladdest(a, b);
            case 15: return x.get(a, b, c);
            case 16: return x.map(a);
            case 17: return x.net(a);
            case 18: return x.share(a, b);
            case 19: return x.tells(a, b, c);
            case 20: return x.film(a, b);
            case 21: return x.drawn(a, b, c);
            case 22: return x.chance(a, b, c, d, e);
            case 23: return x.image();
            case 24: return x.back();
            case 25: return x.count(a);
            case 26: return x.sheet(a, b, c);
            case 27: return x.cell(a, b, c);
            case 28: return x.copy(a, b, c, d, e);
            case 29: return x.askers(a, b, c, d);
            default: return x.taken(a, b);
        }
    }

    private static long model(int call, int a, int b, int c, int d, int e) {
        switch (call) {
            case 0: return m.like(a, b, c);
            case 1: return m.set(a, b, c);
            case 2: return m.asker(a, b);
            case 3: return m.told(a, b);
            case 4: return m.asks(a, b, c);
            case 5: return m.glad(a, b);
            case 6: return m.feed(a);
            case 7: return m.text();
            case 8: return m.force(a);
            case 9: return m.ask(a, b);
            case 10: return m.day();
            case 11: return m.row(a, b, c);
            case 12: return m.rows(a, b);
            case 13: return m.leave(a, b, c);
            case 14: return m.gladdest(a, b);
            case 15: return m.get(a, b, c);
            case 16: return m.map(a);
            case 17: return m.net(a);
            case 18: return m.share(a, b);
            case 19: return m.tells(a, b, c);
            case 20: return m.film(a, b);
            case 21: return m.drawn(a, b, c);
            case 22: return m.chance(a, b, c, d, e);
            case 23: return m.image();
            case 24: return m.back();
            case 25: return m.count(a);
            case 26: return m.sheet(a, b, c);
            case 27: return m.cell(a, b, c);
            case 28: return m.copy(a, b, c, d, e);
            case 29: return m.askers(a, b, c, d);
            default: return m.taken(a, b);
        }
    }
}
