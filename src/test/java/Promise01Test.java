/** Promise 1: a new object. */
public final class Promise01Test {
    private static final Due due = new Due("promise 1, a new object");

    public static void main(String[] args) {
        nothingIsLike();
        noAskers();
        dayIs0();
        text0IsTheRule();
        tapeIsEmpty();
        sheetsAreMissing();
        noImage();
        newBesideAnother();
        due.end();
    }

    private static void nothingIsLike() {
        due.sentence("Nothing LIKE anything");
        WellGivesOther x = new WellGivesOther();
        for (int thing = 0; thing < 12; thing++) due.is("told(" + thing + ", 7)", 0, x.told(thing, 7));
        due.is("count(1)", 0, x.count(1));
    }

    private static void noAskers() {
        due.sentence("no ASKERS");
        WellGivesOther x = new WellGivesOther();
        due.is("count(0)", 0, x.count(0));
        due.is("told(0, 5)", -2, x.told(0, 5));
        due.is("asker", 0, x.asker(0, 0));
    }

    private static void dayIs0() {
        due.sentence("DAY: 0 at first");
        WellGivesOther x = new WellGivesOther();
        due.is("count(2)", 0, x.count(2));
        due.is("told(0, 0)", 0, x.told(0, 0));
    }

    private static void text0IsTheRule() {
        due.sentence("TEXT 0, at first THE RULE");
        WellGivesOther x = new WellGivesOther();
        due.is("count(3)", 1, x.count(3));
        due.is("count(5)", 0, x.count(5));
        due.sentence("TEXT 0 is: gives day ; glads thing ; costs words ;");
        x.asker(0, 5);
        for (int day = 0; day < 11; day++) {
            x.set(0, 0, day);
            due.is("gives day " + day, day + 1, x.asks(0, 1, 1));
        }
        for (int thing = 0; thing < 12; thing++) due.is("glads thing " + thing, thing, x.glad(0, thing));
        for (int words = 1; words <= 12; words++) due.is("costs words " + words, words, x.asks(0, (1 << words) - 1, 3));
    }

    private static void tapeIsEmpty() {
        due.sentence("THE TAPE is empty at first");
        WellGivesOther x = new WellGivesOther();
        due.is("count(4)", 0, x.count(4));
        due.is("feed", 1, x.feed(32));
    }

    private static void sheetsAreMissing() {
        due.sentence("SHEETS 0 .. 3 are missing, as all are at first");
        WellGivesOther x = new WellGivesOther();
        for (int sheet = 0; sheet < 4; sheet++) due.is("cell of " + sheet, -11, x.cell(sheet, 0, 0));
    }

    private static void noImage() {
        due.sentence("there is no IMAGE at first");
        due.is("back", -3, new WellGivesOther().back());
    }

    private static void newBesideAnother() {
        due.sentence("a new object has nothing of another one");
        WellGivesOther earlier = new WellGivesOther();
        String fresh = Wells.story(new WellGivesOther());
        Wells.lively();
        due.isTrue("one made ahead", Wells.story(earlier).equals(fresh));
        due.isTrue("one made behind", Wells.story(new WellGivesOther()).equals(fresh));
    }
}
