/** Promise 7: glad. */
public final class Promise07Test {
    private static final Due due = new Due("promise 7, glad");
    private static final int MIN = Integer.MIN_VALUE, MAX = Integer.MAX_VALUE;
    private static final int ASKER = 0, CLERK = 1, TWIN = 2, BISHOP = 3, GREEDY = 4, OLD = 5;

    public static void main(String[] args) {
        asker();
        clerk();
        twin();
        behindTheLastOne();
        alone();
        bishop();
        greedy();
        old();
        names();
        badNoSuch();
        badThing();
        due.end();
    }

    /** One of a KIND whose glads tells DAY less 500, beside an ASKER. */
    private static WellGivesOther gladOfDays(int kind) {
        WellGivesOther x = Wells.of(kind, ASKER);
        Wells.rule(x, "gives 0;glads day-500;costs 0;");
        return x;
    }

    private static int gladBy(WellGivesOther x, int v) {
        x.set(0, 0, v + 500);
        return x.glad(0, 3);
    }

    private static void gladBy(String sentence, WellGivesOther x, int[] v, int[] want) {
        due.sentence(sentence);
        for (int i = 0; i < v.length; i++) due.is("by v " + v[i], want[i], gladBy(x, v[i]));
    }

    private static void asker() {
        gladBy("GLAD: ASKER: v; glads (-99 .. 99, else the bound)", gladOfDays(ASKER),
            new int[] {-500, -100, -99, -98, -1, 0, 1, 98, 99, 100, 499}, new int[] {-99, -99, -99, -98, -1, 0, 1, 98, 99, 99, 99});
    }

    private static void clerk() {
        gladBy("GLAD: CLERK: half (cut) of an ASKER's: toward 0, and of the bound", gladOfDays(CLERK),
            new int[] {-300, -99, -98, -3, -2, -1, 0, 1, 2, 3, 98, 99, 300}, new int[] {-49, -49, -49, -1, -1, 0, 0, 0, 1, 1, 49, 49, 49});
    }

    private static void twin() {
        WellGivesOther x = gladOfDays(TWIN);
        x.set(3, 0, Wells.set(3));
        gladBy("GLAD: TWIN: else as an ASKER", x,
            new int[] {-100, -99, -1, 0, 1, 99, 100}, new int[] {-99, -99, -1, 0, 1, 99, 99});
        x.set(3, 1, Wells.set(3));
        gladBy("GLAD: TWIN: 0, if the next one HAD it", x, new int[] {-99, -1, 1, 99}, new int[] {0, 0, 0, 0});
        x.set(3, 1, 4095 & ~Wells.set(3));
        gladBy("GLAD: TWIN: else as an ASKER, though the next one HAD others", x, new int[] {-99, 1}, new int[] {-99, 1});
    }

    private static void behindTheLastOne() {
        due.sentence("GLAD: TWIN, GREEDY: the next one, behind the last one 0");
        WellGivesOther x = Wells.of(ASKER, TWIN, CLERK, GREEDY);
        for (int one = 0; one < 4; one++) x.set(3, one, 1 << one);
        int[] twin = {0, 1, 0, 3};
        int[] greedy = {0, 2, 4, 6};
        for (int thing = 0; thing < 4; thing++) due.is("TWIN of " + thing, twin[thing], x.glad(1, thing));
        for (int thing = 0; thing < 4; thing++) due.is("GREEDY of " + thing, greedy[thing], x.glad(3, thing));
        x.set(3, 0, Wells.set(2, 11));
        due.is("GREEDY of 2", 0, x.glad(3, 2));
        due.is("GREEDY of 11", 0, x.glad(3, 11));
    }

    private static void alone() {
        due.sentence("GLAD: TWIN, GREEDY: one who is alone has no next one that HAD it");
        due.is("TWIN of 8", 8, Wells.of(TWIN).glad(0, 8));
        due.is("GREEDY of 8", 16, Wells.of(GREEDY).glad(0, 8));
        WellGivesOther x = Wells.of(TWIN);
        x.set(3, 0, 4095);
        due.is("TWIN of 8 that it HAD itself", 8, x.glad(0, 8));
    }

    private static void bishop() {
        WellGivesOther x = gladOfDays(BISHOP);
        x.set(1, 0, 9);
        gladBy("GLAD: BISHOP: NUMBER more than a CLERK", x,
            new int[] {-100, -99, -19, -1, 0, 1, 2, 3, 99, 100}, new int[] {-40, -40, 0, 9, 9, 9, 10, 10, 58, 58});
        x.set(1, 0, 0);
        gladBy("GLAD: BISHOP: NUMBER 0", x, new int[] {-99, -1, 1, 99}, new int[] {-49, 0, 0, 49});
    }

    private static void greedy() {
        WellGivesOther x = gladOfDays(GREEDY);
        gladBy("GLAD: GREEDY: twice a TWIN's; GLAD -99 .. 99, else the bound", x,
            new int[] {-99, -51, -50, -49, -1, 0, 1, 48, 49, 50, 51, 99}, new int[] {-99, -99, -99, -98, -2, 0, 2, 96, 98, 99, 99, 99});
        x.set(3, 1, Wells.set(3));
        gladBy("GLAD: GREEDY: twice 0, if the next one HAD it", x, new int[] {-99, -1, 1, 99}, new int[] {0, 0, 0, 0});
    }

    private static void old() {
        WellGivesOther x = gladOfDays(OLD);
        x.set(3, 0, Wells.set(3));
        x.set(3, 1, Wells.set(3));
        gladBy("GLAD: OLD: 9", x, new int[] {-99, -1, 0, 1, 99}, new int[] {9, 9, 9, 9, 9});
    }

    private static void names() {
        due.sentence("of glads thing: the THING, words: 0, ways: 0; number: NUMBER; day: DAY; had: how many THINGS one HAD");
        String[] told = {"thing", "words", "ways", "number", "day", "had"};
        int[] want = {11, 0, 0, 7, 40, 3};
        for (int i = 0; i < told.length; i++) {
            WellGivesOther x = Wells.of(ASKER, ASKER);
            x.set(0, 0, 40);
            x.set(1, 0, 7);
            x.set(1, 1, 5);
            x.set(3, 0, Wells.set(0, 5, 11));
            x.set(3, 1, 4095);
            Wells.rule(x, "gives 0;glads " + told[i] + ";costs 0;");
            due.is("glads " + told[i], want[i], x.glad(0, 11));
        }
        WellGivesOther y = Wells.of(ASKER);
        for (int thing = 0; thing < 12; thing++) due.is("glads thing", thing, y.glad(0, thing));
    }

    private static void badNoSuch() {
        due.sentence("-1000: none such of ASKERS");
        due.refused(-1000, x -> x.glad(4, 0), x -> x.glad(-1, 0), x -> x.glad(5, 0), x -> x.glad(MIN, 0), x -> x.glad(MAX, 0));
    }

    private static void badThing() {
        due.sentence("-1000: none such of THINGS");
        due.refused(-1000, x -> x.glad(0, 12), x -> x.glad(0, -1), x -> x.glad(0, MIN), x -> x.glad(0, MAX));
    }
}
