/** Promises 8 to 10: feed, text, force. */
public final class TextsTest {
    private static final Due due = new Due();

    public static void main(String[] args) {
        feeds();
        faults();
        depths();
        full();
        forces();
        values();
        due.end("TextsTest");
    }

    private static void feeds() {
        WellGivesOther x = new WellGivesOther();
        due.is("feed -1", -2, x.feed(-1));
        due.is("feed 256", -2, x.feed(256));
        for (int i = 1; i <= 160; i++) due.is("feed", i, x.feed(i == 1 ? 255 : i == 2 ? 0 : 32));
        due.is("feed full", -4, x.feed(32));
        due.is("feed bad ahead of full", -2, x.feed(256));
        due.is("tape", 160, x.count(4));
        due.is("fault at 255", -100, x.text());
        due.is("tape then", 0, x.count(4));
        due.is("feed then", 1, x.feed(32));
        WellGivesOther y = new WellGivesOther();
        StringBuilder whole = new StringBuilder("gives day;glads thing;costs words;");
        while (whole.length() < 160) whole.append(' ');
        due.is("a whole tape", 1, Due.read(y, whole.toString()));
        whole.setCharAt(159, '1');
        due.is("a whole tape's last", -259, Due.read(y, whole.toString()));
    }

    private static void fault(int place, String text) {
        WellGivesOther x = new WellGivesOther();
        due.is("[" + text + "]", place < 0 ? 1 : -100 - place, Due.read(x, text));
        due.is("tape behind [" + text + "]", 0, x.count(4));
        due.is("texts behind [" + text + "]", place < 0 ? 2 : 1, x.count(3));
    }

    private static void faults() {
        fault(-1, "gives day;glads thing;costs words;");
        fault(-1, "\n gives 0001 \n; glads 9999*ways; costs number+had; \n");
        fault(-1, "gives not 1 = 2 and 3 < 4 or not not 5;glads(1);costs-1;");
        fault(-1, "gives 1-2--3+-4*-5;glads 1;costs 1;");
        // Too early an end: the text's size.
        fault(0, "");
        fault(3, "   ");
        fault(6, "gives ");
        fault(9, "gives day");
        fault(11, "gives day  ");
        fault(10, "gives day;");
        fault(10, "gives (day");
        fault(33, "gives day;glads thing;costs words");
        // Tokens that can't stand there.
        fault(0, "glads day;");
        fault(0, "day;");
        fault(6, "gives glads;");
        fault(6, "gives ;");
        fault(10, "gives day gives");
        fault(10, "gives day;day");
        fault(10, "gives day;costs 1;glads 1;");
        fault(9, "gives day)glads");
        fault(10, "gives (day;");
        fault(8, "gives ( )1;");
        fault(8, "gives 1 2;");
        fault(7, "gives 1day;");
        fault(9, "gives 1+ *2;");
        fault(10, "gives 1<2 <3;");
        fault(9, "gives 1=2=3;");
        fault(9, "gives 1<2=3;");
        fault(8, "gives 1+not 2;");
        fault(8, "gives 1<not 2;");
        fault(8, "gives 1*not 2;");
        fault(7, "gives -not 2;");
        fault(6, "gives or 1;");
        fault(11, "gives 1 or and 1;");
        fault(12, "gives 1 and or 1;");
        fault(34, "gives day;glads thing;costs words;;");
        fault(35, "gives day;glads thing;costs words; gives");
        // Words, numbers and bytes that are none.
        fault(0, "givesday;");
        fault(6, "gives days;");
        fault(6, "gives da;");
        fault(6, "gives numberr;");
        fault(6, "gives dayz;");
        fault(6, "gives a;");
        for (char c = 1; c < 10; c++) fault(8, "gives 1 " + c + " 1;glads 1;costs 1;");
        for (char c = 1; c < 10; c++) fault(6, "gives " + c + ";glads 1;costs 1;");
        fault(6, "gives Day;");
        fault(6, "gives 12345;");
        fault(6, "gives 00000;");
        fault(10, "gives day 12345;");
        fault(9, "gives day\t;");
        fault(6, "gives " + (char) 233 + ";");
        fault(7, "gives 1%2;");
        fault(8, "gives 1 > 2;");
        fault(36, "gives day;glads thing;costs words;  %");
    }

    private static void depths() {
        String tail = ";glads 1;costs 1;";
        fault(-1, "gives (((((1)))))" + tail);
        fault(11, "gives ((((((1))))))" + tail);
        fault(-1, "gives -----1" + tail);
        fault(11, "gives ------1" + tail);
        fault(-1, "gives not not not not not 1" + tail);
        fault(26, "gives not not not not not not 1" + tail);
        fault(26, "gives not not not not not (1)" + tail);
        fault(26, "gives not not not not not -1" + tail);
        fault(13, "gives -(-(not(1)))" + tail);
        fault(-1, "gives -(-(not 1))" + tail);
        fault(14, "gives -(-(not -1))" + tail);
        // What is closed is open no more.
        fault(-1, "gives (((((1)))))+(((((2)))))*-----3" + tail);
        fault(-1, "gives not not not not not 1 and not not not not not 2 or (not (not (1)))" + tail);
        fault(-1, "gives -(-(-1))+-(-(-1))" + tail);
        // A not is open on both sides of < and =.
        fault(28, "gives not not not not not 1<-2" + tail);
        fault(28, "gives not not not not not 1=(2)" + tail);
        fault(28, "gives not not not not not 1*(2)" + tail);
        fault(-1, "gives not not not not 1<-2" + tail);
        // A - is over behind its ONE.
        fault(-1, "gives -1*-1*-1*-1*-1*-1*-1" + tail);
        fault(-1, "gives ----(1)*-(1)" + tail);
    }

    private static void full() {
        // What a FAULT broke off leaves nothing for the next text.
        WellGivesOther y = new WellGivesOther();
        y.asker(0, 0);
        due.is("fault", -122, Due.read(y, "gives 5;glads 6;costs *;"));
        due.is("text behind it", 1, Due.read(y, "gives 2;glads 3;costs 4;"));
        y.force(1);
        due.is("gives", 3, y.asks(0, 1, 1));
        due.is("glads", 3, y.glad(0, 1));
        due.is("costs", 4, y.asks(0, 1, 3));
        WellGivesOther x = new WellGivesOther();
        for (int i = 1; i < 6; i++) due.is("text", i, Due.read(x, "gives 1;glads 2;costs 3;"));
        due.is("texts", 6, x.count(3));
        Due.type(x, "gives %");
        due.is("text full", -4, x.text());
        due.is("the tape stays", 7, x.count(4));
    }

    private static void forces() {
        WellGivesOther x = new WellGivesOther();
        x.asker(0, 0);
        due.is("force itself", 0, x.force(0));
        due.is("force none such", -2, x.force(1));
        due.is("force below", -2, x.force(-1));
        Due.read(x, "gives 4;glads 50;costs 7;");
        due.is("force not at once", 0, x.count(5));
        due.is("force", 0, x.force(1));
        due.is("rule", 1, x.count(5));
        due.is("gives 4", 5, x.asks(0, 1, 1));
        due.is("glads 50", 50, x.glad(0, 1));
        due.is("costs 7", 7, x.asks(0, 1, 3));
        due.is("force back", 1, x.force(0));
        due.is("glads thing", 1, x.glad(0, 1));
        due.is("force beyond", -2, x.force(6));
        due.is("force far beyond", -2, x.force(Integer.MAX_VALUE));
    }

    private static void value(int want, String e) {
        WellGivesOther x = new WellGivesOther();
        x.asker(0, 7);
        x.set(0, 0, 40);
        x.set(3, 0, 0x70);
        due.is("text of " + e, 1, Due.read(x, "gives 0;glads " + e + ";costs 0;"));
        x.force(1);
        due.is(e, want, x.glad(0, 6));
    }

    private static void values() {
        value(7, "1+2*3");
        value(9, "(1+2)*3");
        value(-4, "1-2-3");
        value(2, "1-(2-3)");
        value(-6, "-2*3");
        value(5, "2--3");
        value(42, "0042");
        value(1, "1<2");
        value(0, "2<2");
        value(0, "3<2");
        value(1, "-3<2");
        value(1, "2=2");
        value(0, "2=3");
        value(1, "1+1=2*1");
        value(0, "not 5");
        value(1, "not 0");
        value(1, "not not 5");
        value(0, "not 1=1");
        value(1, "not 1=2");
        value(5, "5");
        value(1, "5 or 0");
        value(0, "0 or 0");
        value(1, "0 or -1");
        value(1, "5 and 6");
        value(0, "5 and 0");
        value(0, "0 and 5");
        value(1, "1 and 1");
        value(1, "1 or 1");
        value(1, "0 or 1");
        value(1, "1 or 0 and 0");
        value(0, "(1 or 0) and 0");
        value(1, "0 and 0 or 7");
        value(0, "not 1 and 0");
        value(1, "not (1 and 0)");
        value(1, "not 0 or 1");
        value(6, "thing");
        value(0, "words");
        value(0, "ways");
        value(7, "number");
        value(40, "day");
        value(3, "had");
        value(99, "9999");
        value(-99, "-9999");
        // 9999*9999*9999 wraps around to a number below 0; 4 * 2^30 to 0.
        value(9999 * 9999 * 9999 < 0 ? -99 : 99, "9999*9999*9999");
        value(0, "4096*4096*256");
        value(1, "2048*2048*512<0");
        value(-99, "2048*2048*512-1+1");
        value(99, "2048*2048*512-1");
        value(99, "(((((1+2)*3)+4)*5)+6)*7");
        value(1 + 2 * (3 + 4 * (5 - 6 * (7 - 8))), "1+2*(3+4*(5-6*(7-8)))");
    }
}
