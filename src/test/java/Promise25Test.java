/** Promise 25: image. */
public final class Promise25Test {
    private static final Due due = new Due("promise 25, image");

    public static void main(String[] args) {
        howMany();
        anew();
        itselfChangesNothing();
        due.end();
    }

    private static void howMany() {
        due.sentence("AN IMAGE is kept: how many ASKERS");
        WellGivesOther x = new WellGivesOther();
        due.is("none", 0, x.image());
        for (int many = 1; many <= 5; many++) {
            x.asker(0, 0);
            due.is("image", many, x.image());
        }
        due.is("again", 5, x.image());
    }

    private static void anew() {
        due.sentence("AN IMAGE is kept: that of now, in place of the earlier one");
        WellGivesOther x = Wells.of(0);
        x.image();
        x.asker(5, 1);
        x.set(0, 0, 7);
        x.like(3, 4, 1);
        x.set(3, 0, 9);
        due.is("image", 2, x.image());
        x.set(0, 0, 8);
        x.like(3, 4, 0);
        x.set(3, 0, 0);
        due.is("back", 2, x.back());
        due.is("DAY", 7, x.count(2));
        due.is("LIKE", 16, x.told(3, 7));
        due.is("HAD", 9, x.told(0, 3));
    }

    private static void itselfChangesNothing() {
        due.sentence("all that can be seen stays");
        WellGivesOther x = Wells.lively();
        WellGivesOther y = Wells.lively();
        x.image();
        y.image();
        y.image();
        due.isTrue("all", Wells.story(x).equals(Wells.story(y)));
        WellGivesOther z = Wells.lively();
        z.image();
        for (int one = 0; one < 4; one++) {
            for (int what = 0; what < 6; what++) due.is("told", Wells.lively().told(one, what), z.told(one, what));
        }
    }
}
