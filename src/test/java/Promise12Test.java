/** Promise 12: day. */
public final class Promise12Test {
    private static final Due due = new Due("promise 12, day");

    public static void main(String[] args) {
        goes();
        nothingElse();
        upTo999();
        state();
        due.end();
    }

    private static void goes() {
        due.sentence("A DAY goes, truly: DAY is 1 more");
        WellGivesOther x = new WellGivesOther();
        for (int day = 1; day < 4; day++) {
            due.is("day", day, x.day());
            due.is("count(2)", day, x.count(2));
        }
    }

    private static void nothingElse() {
        due.sentence("nothing but DAY is otherwise");
        WellGivesOther x = Wells.lively();
        WellGivesOther y = Wells.lively();
        x.day();
        x.set(0, 0, y.count(2));
        due.isTrue("all but DAY", Wells.story(x).equals(Wells.story(y)));
    }

    private static void upTo999() {
        due.sentence("DAY (0 .. 999)");
        WellGivesOther x = new WellGivesOther();
        x.set(0, 0, 998);
        due.is("day", 999, x.day());
    }

    private static WellGivesOther last() {
        WellGivesOther x = Wells.lively();
        x.set(0, 0, 999);
        return x;
    }

    private static void state() {
        due.sentence("STATE: it is 999");
        due.refusedBy(Promise12Test::last, -3, x -> x.day());
        WellGivesOther x = last();
        x.day();
        due.is("again", -3, x.day());
        x.set(0, 0, 0);
        due.is("from 0 on", 1, x.day());
    }
}
