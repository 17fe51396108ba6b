/** Promise 26: back. */
public final class Promise26Test {
    private static final Due due = new Due("promise 26, back");

    public static void main(String[] args) {
        likes();
        day();
        whatOneIs("NUMBERS", 1);
        whatOneIs("what is SHUT", 2);
        whatOneIs("HAD", 3);
        whatOneIs("SPENT", 4);
        rule();
        askersThatCame();
        toNone();
        kinds();
        howMany();
        againAndAgain();
        textsStay();
        tapeStays();
        sheetsStay();
        changesBehindIt();
        state();
        due.end();
    }

    private static void likes() {
        due.sentence("AN IMAGE keeps what is LIKE");
        WellGivesOther x = new WellGivesOther();
        x.like(3, 4, 1);
        x.like(0, 11, 1);
        x.image();
        x.like(3, 4, 0);
        x.like(0, 11, 0);
        x.like(5, 6, 1);
        x.like(0, 1, 1);
        x.like(10, 11, 1);
        x.back();
        int[] like = {2048, 0, 0, 16, 8, 0, 0, 0, 0, 0, 0, 1};
        for (int thing = 0; thing < 12; thing++) due.is("told(" + thing + ", 7)", like[thing], x.told(thing, 7));
    }

    private static void day() {
        due.sentence("AN IMAGE keeps DAY");
        WellGivesOther x = new WellGivesOther();
        x.set(0, 0, 9);
        x.image();
        x.day();
        x.back();
        due.is("DAY", 9, x.count(2));
        x.set(0, 0, 0);
        x.back();
        due.is("DAY", 9, x.count(2));
    }

    private static void whatOneIs(String kept, int what) {
        due.sentence("AN IMAGE keeps " + kept);
        WellGivesOther x = Wells.of(0, 1, 2, 3, 5);
        for (int one = 0; one < 5; one++) x.set(what, one, one + 2);
        x.image();
        for (int one = 0; one < 5; one++) x.set(what, one, 9 - one);
        x.back();
        for (int one = 0; one < 5; one++) due.is("told(" + one + ", " + what + ")", one + 2, x.told(one, what));
        for (int one = 0; one < 5; one++) x.ask(one, 6);
        x.back();
        for (int one = 0; one < 5; one++) due.is("told(" + one + ", " + what + ")", one + 2, x.told(one, what));
    }

    private static void rule() {
        due.sentence("AN IMAGE keeps THE RULE");
        WellGivesOther x = Wells.of(0);
        Wells.rule(x, "gives 1;glads 50;costs 1;");
        x.image();
        x.force(0);
        x.back();
        due.is("count(5)", 1, x.count(5));
        due.is("glad", 50, x.glad(0, 3));
    }

    private static void askersThatCame() {
        due.sentence("ASKERS that came since go");
        WellGivesOther x = Wells.of(0, 1);
        x.image();
        x.asker(3, 7);
        x.asker(4, 7);
        due.is("back", 2, x.back());
        due.is("count(0)", 2, x.count(0));
        due.is("told(2, 5)", -2, x.told(2, 5));
        due.is("told(3, 5)", -2, x.told(3, 5));
        due.is("another one comes there", 2, x.asker(5, 1));
        due.sentence("ASKERS that came since are no next ones any more");
        WellGivesOther y = Wells.of(2);
        y.image();
        y.asker(0, 0);
        y.set(3, 1, 4095);
        due.is("nothing is OPEN", 0, y.asks(0, 1, 0));
        y.back();
        due.is("all is OPEN", 4094, y.asks(0, 1, 0));
    }

    private static void toNone() {
        due.sentence("back to no ASKERS");
        WellGivesOther x = new WellGivesOther();
        due.is("image", 0, x.image());
        for (int i = 0; i < 5; i++) x.asker(i, i);
        due.is("back", 0, x.back());
        due.is("count(0)", 0, x.count(0));
        due.is("there is room for five", 0, x.asker(0, 0));
        for (int i = 1; i < 5; i++) x.asker(i, i);
        due.is("and no more", -4, x.asker(0, 0));
    }

    private static void kinds() {
        due.sentence("ASKERS that were in THE IMAGE are of the KIND they were of");
        WellGivesOther x = Wells.of(5, 3);
        x.image();
        x.asker(1, 1);
        x.back();
        due.is("told(0, 5)", 5, x.told(0, 5));
        due.is("told(1, 5)", 3, x.told(1, 5));
    }

    private static void howMany() {
        due.sentence("how many ASKERS");
        for (int many = 0; many <= 5; many++) {
            WellGivesOther x = new WellGivesOther();
            for (int i = 0; i < many; i++) x.asker(0, 0);
            x.image();
            x.asker(0, 0);
            due.is("back", many, x.back());
        }
    }

    private static void againAndAgain() {
        due.sentence("THE IMAGE stays, and nothing that comes behind changes it");
        WellGivesOther x = Wells.of(0, 2);
        x.set(0, 0, 9);
        x.set(2, 1, 40);
        x.like(3, 4, 1);
        x.image();
        for (int turn = 0; turn < 3; turn++) {
            x.day();
            x.like(3, 4, 0);
            x.like(7, 8, 1);
            x.set(2, 1, turn);
            x.ask(0, 1);
            x.asker(0, 0);
            due.is("back", 2, x.back());
            due.is("DAY", 9, x.count(2));
            due.is("told(3, 7)", 16, x.told(3, 7));
            due.is("told(7, 7)", 0, x.told(7, 7));
            due.is("told(1, 2)", 40, x.told(1, 2));
            due.is("told(0, 2)", 0, x.told(0, 2));
        }
    }

    private static void textsStay() {
        due.sentence("TEXTS are none of what it keeps: they stay");
        WellGivesOther x = Wells.of(0);
        x.image();
        Wells.rule(x, "gives 1;glads 50;costs 1;");
        x.back();
        due.is("count(3)", 2, x.count(3));
        due.is("count(5)", 0, x.count(5));
        due.is("force(1)", 0, x.force(1));
        due.is("glad", 50, x.glad(0, 3));
    }

    private static void tapeStays() {
        due.sentence("THE TAPE is none of what it keeps: it stays");
        WellGivesOther x = new WellGivesOther();
        x.image();
        Wells.type(x, "gives 1;glads 50;costs 1;");
        x.back();
        due.is("count(4)", 25, x.count(4));
        due.is("text", 1, x.text());
        x.back();
        due.is("count(4)", 0, x.count(4));
    }

    private static void sheetsStay() {
        due.sentence("SHEETS are none of what it keeps: they stay");
        WellGivesOther x = Wells.of(0);
        Wells.fill(x, 0, 1);
        x.sheet(1, 0, 3);
        x.image();
        Wells.fill(x, 0, 6, 8);
        x.sheet(1, -1, 0);
        x.sheet(2, 1, 4);
        x.back();
        due.is("SHEET 0", 14, x.row(0, 0, 4));
        due.is("SHEET 1", -11, x.cell(1, 0, 0));
        due.is("SHEET 2", 1, x.cell(2, 3, 0));
    }

    private static void changesBehindIt() {
        due.sentence("what it laid back can change again");
        WellGivesOther x = Wells.of(0);
        x.image();
        x.back();
        due.is("ask", 1, x.ask(0, 1));
        due.is("HAD", 2, x.told(0, 3));
        due.is("like", 0, x.like(0, 1, 1));
        due.is("day", 1, x.day());
        due.is("asker", 1, x.asker(0, 0));
    }

    private static void state() {
        due.sentence("STATE: there is none");
        due.refusedBy(() -> Wells.of(0, 2), -3, x -> x.back());
        WellGivesOther x = new WellGivesOther();
        x.back();
        due.is("still none", -3, x.back());
        x.image();
        due.is("now there is", 0, x.back());
    }
}
