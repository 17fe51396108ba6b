/** Promise 9: text, with what a TEXT and its TOKENS are and where a FAULT is. What its numbers come to: TextValuesTest. */
public final class Promise09Test {
    private static final Due due = new Due("promise 9, text");
    private static final String TAIL = ";glads 1;costs 1;";

    public static void main(String[] args) {
        number();
        emptyThen();
        emptyByFault();
        full();
        fullAheadOfAll();
        blanks();
        parts();
        grammar();
        endsTooEarly();
        cantStandThere();
        beginsNone();
        word();
        keysAndNames();
        longNumber();
        firstFault();
        openAhead();
        openTill();
        openAround();
        wholeTape();
        due.end();
    }

    private static void is(String text, int want) {
        WellGivesOther x = new WellGivesOther();
        due.is("[" + text + "]", want, Wells.read(x, text));
        due.is("THE TAPE behind [" + text + "]", 0, x.count(4));
        due.is("TEXTS behind [" + text + "]", want < 0 ? 1 : 2, x.count(3));
    }

    private static void good(String text) {
        is(text, 1);
    }

    /** A FAULT where the mark ^ stands, that is no byte of the text. */
    private static void fault(String marked) {
        int place = marked.indexOf('^');
        is(marked.substring(0, place) + marked.substring(place + 1), -100 - place);
    }

    private static void number() {
        due.sentence("is a TEXT: its number; 6 TEXTS at most, TEXT 0 with them");
        WellGivesOther x = new WellGivesOther();
        for (int text = 1; text < 6; text++) {
            due.is("text", text, Wells.read(x, "gives 1;glads 2;costs 3;"));
            due.is("count(3)", text + 1, x.count(3));
        }
        due.sentence("a TEXT is not THE RULE for that");
        due.is("count(5)", 0, x.count(5));
    }

    private static void emptyThen() {
        due.sentence("THE TAPE is empty then");
        WellGivesOther x = new WellGivesOther();
        Wells.read(x, "gives 1;glads 2;costs 3;");
        due.is("count(4)", 0, x.count(4));
        due.is("feed", 1, x.feed('g'));
    }

    private static void emptyByFault() {
        due.sentence("THE TAPE is empty by a FAULT, too");
        WellGivesOther x = Wells.of(0);
        due.is("a FAULT", -122, Wells.read(x, "gives 5;glads 6;costs *;"));
        due.is("count(4)", 0, x.count(4));
        due.is("count(3)", 1, x.count(3));
        due.is("text behind it", 1, Wells.read(x, "gives 2;glads 3;costs 4;"));
        x.force(1);
        due.is("gives", 3, x.asks(0, 1, 1));
        due.is("glads", 3, x.glad(0, 1));
        due.is("costs", 4, x.asks(0, 1, 3));
        due.sentence("a FAULT changes nothing but THE TAPE");
        WellGivesOther y = Wells.lively();
        y.text();
        int texts = y.count(3);
        due.is("a FAULT", -106, Wells.read(y, "gives ;"));
        due.is("count(3)", texts, y.count(3));
        due.is("count(5)", 0, y.count(5));
        due.is("told(0, 2)", 8 | 64, y.told(0, 2));
    }

    private static WellGivesOther fullOfTexts(String tape) {
        WellGivesOther x = new WellGivesOther();
        x.asker(0, 0);
        for (int i = 0; i < 5; i++) Wells.read(x, "gives 1;glads 2;costs 3;");
        Wells.type(x, tape);
        return x;
    }

    private static void full() {
        due.sentence("FULL: no TEXT more has room (THE TAPE stays)");
        due.refusedBy(() -> fullOfTexts("gives 1;glads 2;costs 3;"), -4, x -> x.text());
        WellGivesOther x = fullOfTexts("gives");
        due.is("text", -4, x.text());
        due.is("count(4)", 5, x.count(4));
        due.is("count(3)", 6, x.count(3));
        due.is("feed", 6, x.feed(32));
    }

    private static void fullAheadOfAll() {
        due.sentence("FULL (ahead of all): of a FAULT, too");
        due.refusedBy(() -> fullOfTexts("gives %"), -4, x -> x.text());
        due.refusedBy(() -> fullOfTexts(""), -4, x -> x.text());
    }

    private static void blanks() {
        due.sentence("blanks (32, 10) may stand between");
        good(" \n gives\n1 ;\n\nglads  1\n+\n( 2 ) ;costs not\n3 ; \n");
        due.sentence("blanks: no other byte is one");
        int[] others = {0, 9, 11, 12, 13, 31, 33, 127, 160, 255};
        for (int other : others) fault("gives day^" + (char) other + ";glads 1;costs 1;");
        due.sentence("blanks need not stand but where two TOKENS would be one");
        good("gives 1and 2or not(3);glads(1)*2;costs-1;");
        fault("^givesday;glads 1;costs 1;");
        fault("gives ^notday" + TAIL);
        due.sentence("a blank ends a TOKEN");
        fault("^giv es 1" + TAIL);
        fault("gives 1 ^2" + TAIL);
        fault("gives day ^day" + TAIL);
    }

    private static void parts() {
        due.sentence("TEXT: gives E ; glads E ; costs E ;");
        good("gives day;glads thing;costs words;");
        fault("^glads day;gives 1;costs 1;");
        fault("^costs day;gives 1;glads 1;");
        fault("^day;glads 1;costs 1;");
        fault("^;");
        fault("gives ^;glads 1;costs 1;");
        fault("gives ^glads 1;costs 1;");
        fault("gives 1 ^glads 1;costs 1;");
        fault("gives 1;^gives 1;costs 1;");
        fault("gives 1;^costs 1;glads 1;");
        fault("gives 1;^day;costs 1;");
        fault("gives 1;^;glads 1;costs 1;");
        fault("gives 1;glads ^;costs 1;");
        fault("gives 1;glads 1 ^costs 1;");
        fault("gives 1;glads 1;^glads 1;");
        fault("gives 1;glads 1;costs ^;");
        due.sentence("a TEXT ends behind its last ;");
        fault("gives 1;glads 1;costs 1;^;");
        fault("gives 1;glads 1;costs 1; ^gives 1;glads 1;costs 1;");
        fault("gives 1;glads 1;costs 1;^1");
        fault("gives 1;glads 1;costs 1;\n ^)");
        fault("gives 1;glads 1;costs 1; ^%");
        good("gives 1;glads 1;costs 1; \n");
    }

    private static void grammar() {
        due.sentence("E: AND { or AND }");
        good("gives 1 or 2 or not 3 or 4<5" + TAIL);
        fault("gives ^or 1" + TAIL);
        fault("gives 1 or ^or 1" + TAIL);
        fault("gives 1 or^;glads 1;costs 1;");
        due.sentence("AND: NOT { and NOT }");
        good("gives 1 and 2 and not 3 and 4<5 or 6 and 7" + TAIL);
        fault("gives ^and 1" + TAIL);
        fault("gives 1 and ^and 1" + TAIL);
        fault("gives 1 or ^and 1" + TAIL);
        fault("gives 1 and ^or 1" + TAIL);
        due.sentence("NOT: not NOT, or SUM, perhaps < or = and a SUM");
        good("gives not 1<2 and not not 1=2 or 1+2<3+4" + TAIL);
        fault("gives 1<2 ^<3" + TAIL);
        fault("gives 1=2^=3" + TAIL);
        fault("gives 1<2^=3" + TAIL);
        fault("gives 1=2^<3" + TAIL);
        fault("gives 1<^=2" + TAIL);
        fault("gives ^<1" + TAIL);
        fault("gives ^=1" + TAIL);
        fault("gives 1<^not 2" + TAIL);
        fault("gives 1=^not 2" + TAIL);
        fault("gives not^" + TAIL);
        fault("gives 1 ^not 2" + TAIL);
        due.sentence("SUM: TERM { + or - TERM }");
        good("gives 1+2-3+4*5-6" + TAIL);
        fault("gives ^+1" + TAIL);
        fault("gives 1+^+1" + TAIL);
        fault("gives 1-^+1" + TAIL);
        fault("gives 1+^not 2" + TAIL);
        fault("gives 1+^" + TAIL);
        due.sentence("TERM: ONE { * ONE }");
        good("gives 1*2*-3*(4)*day" + TAIL);
        fault("gives ^*1" + TAIL);
        fault("gives 1*^*1" + TAIL);
        fault("gives 1+^*1" + TAIL);
        fault("gives 1*^+1" + TAIL);
        fault("gives 1*^not 2" + TAIL);
        due.sentence("ONE: a NUMBER, a NAME, - ONE, ( E )");
        good("gives 1+day+-2+--day+(1 or 2)+(not 1)+(1<2)-(-(3))" + TAIL);
        fault("gives -^+1" + TAIL);
        fault("gives -^not 1" + TAIL);
        fault("gives -^" + TAIL);
        fault("gives (^)" + TAIL);
        fault("gives ^)" + TAIL);
        fault("gives (1^" + TAIL);
        fault("gives (1 ^2)" + TAIL);
        fault("gives (1)^)" + TAIL);
        fault("gives ((1)^" + TAIL);
        fault("gives 1^(2)" + TAIL);
        fault("gives (1)^(2)" + TAIL);
        fault("gives day^(2)" + TAIL);
    }

    private static void endsTooEarly() {
        due.sentence("FAULT: the text's size, if it ends too early");
        fault("^");
        fault(" \n ^");
        fault("gives^");
        fault("gives ^");
        fault("gives day^");
        fault("gives day  ^");
        fault("gives 1+^");
        fault("gives not^");
        fault("gives -^");
        fault("gives (^");
        fault("gives (day^");
        fault("gives (day)^");
        fault("gives day;^");
        fault("gives day;\n^");
        fault("gives day;glads^");
        fault("gives day;glads 1^");
        fault("gives day;glads 1;^");
        fault("gives day;glads 1;costs^");
        fault("gives day;glads 1;costs 1^");
        fault("gives day;glads 1;costs 1 \n^");
    }

    private static void cantStandThere() {
        due.sentence("FAULT: the place of the first byte of the first TOKEN that can't stand there");
        fault("gives 1;  ^costs 1;glads 1;");
        fault("gives 12 ^345" + TAIL);
        fault("gives ^gives 1;");
        fault("gives 1 ^glads" + TAIL);
        fault("gives 1<2 or ^costs 1;");
        fault("gives (day^;");
        fault("gives 1^day" + TAIL);
    }

    private static void beginsNone() {
        due.sentence("FAULT: of a byte that begins none");
        // Also the bytes that a class may use for TOKENS of its own.
        for (int b = 0; b < 256; b++) {
            if (b == 32 || b == 10 || "();+-*<=".indexOf(b) >= 0 || b >= '0' && b <= '9' || b >= 'a' && b <= 'z') continue;
            fault("gives 1 ^" + (char) b + " 1" + TAIL);
        }
        int[] some = {0, 1, 2, 3, 7, 8, 9, 'A', 'Z', '`', '{', '/', ':', '>', ',', '_', 128, 200, 233, 255};
        for (int b : some) {
            fault("^" + (char) b + "gives 1" + TAIL);
            fault("gives ^" + (char) b + TAIL);
            fault("gives 1" + TAIL + "^" + (char) b);
        }
        fault("gives ^Day" + TAIL);
        fault("gives ^dAy" + TAIL);
    }

    private static void word() {
        due.sentence("FAULT: of a WORD that is neither KEY nor NAME");
        String[] words = {"a", "z", "da", "days", "dayz", "thin", "things", "word", "wordss", "way", "wayss", "numbe", "numbers",
            "ha", "hadd", "give", "givess", "glad", "gladss", "cost", "costss", "o", "orr", "an", "andd", "no", "nott", "xor",
            "givesglads", "dayday", "notnot", "orand"};
        for (String w : words) {
            fault("gives ^" + w + TAIL);
            fault("gives 1 ^" + w + " 1" + TAIL);
            fault("^" + w + " 1" + TAIL);
        }
        due.sentence("WORDS (a .. z) are as long as can be");
        fault("gives ^dayor 1" + TAIL);
        fault("gives 1 ^orday" + TAIL);
        due.sentence("a WORD ends where a .. z end");
        good("gives day+1or 2and(3)" + TAIL);
        fault("gives day^1" + TAIL);
        fault("gives day^_1" + TAIL);
    }

    private static void keysAndNames() {
        due.sentence("NAMES are thing words ways number day had");
        String[] names = {"thing", "words", "ways", "number", "day", "had"};
        for (String name : names) {
            good("gives " + name + ";glads " + name + ";costs " + name + ";");
            good("gives (" + name + "<" + name + "*-" + name + ")" + TAIL);
        }
        due.sentence("gives, glads, costs, or, and, not are KEYS");
        String[] keys = {"gives", "glads", "costs", "or", "and"};
        for (String key : keys) {
            fault("gives ^" + key + TAIL);
            fault("gives 1+^" + key + TAIL);
        }
        fault("gives 1+^not 1" + TAIL);
    }

    private static void longNumber() {
        due.sentence("NUMBERS: 4 at most");
        good("gives 0;glads 9999;costs 0000;");
        good("gives 12;glads 123;costs 1234;");
        due.sentence("FAULT: of a NUMBER that is too long");
        fault("gives ^12345" + TAIL);
        fault("gives ^00000" + TAIL);
        fault("gives ^123456" + TAIL);
        fault("gives 1+^10000" + TAIL);
        fault("gives 1234+^12345" + TAIL);
        fault("gives 1234 ^5" + TAIL);
        fault("^12345");
        fault("gives 1 ^99999" + TAIL);
        fault("gives ^99999999999999999999" + TAIL);
    }

    private static void firstFault() {
        due.sentence("FAULT: the first one");
        fault("gives ^; %");
        fault("gives ^12345 % day");
        fault("gives 1 ^1 x 12345");
        fault("gives ^%;glads %;");
        fault("gives (((((^(1 %");
    }

    private static void openAhead() {
        due.sentence("FAULT: of a ( while 5 of these are open");
        good("gives (((((1)))))" + TAIL);
        fault("gives (((((^(1))))))" + TAIL);
        fault("gives 1+(((((2*^(1))))))" + TAIL);
        due.sentence("FAULT: of a not while 5 of these are open");
        good("gives not not not not not 1" + TAIL);
        fault("gives not not not not not ^not 1" + TAIL);
        fault("gives (((((^not 1)))))" + TAIL);
        fault("gives (((((1 or ^not 1)))))" + TAIL);
        due.sentence("FAULT: of a - ahead of a ONE while 5 of these are open");
        good("gives -----1" + TAIL);
        fault("gives -----^-1" + TAIL);
        fault("gives (((((^-1)))))" + TAIL);
        fault("gives (((((1*^-1)))))" + TAIL);
        due.sentence("a - between TERMS opens nothing");
        good("gives (((((1-1-1)))))-1-1" + TAIL);
        good("gives -----1-1-1" + TAIL);
        due.sentence("5 of these, of whichever");
        good("gives -(-(not 1))" + TAIL);
        good("gives not(not(-1))" + TAIL);
        fault("gives -(-(not ^-1))" + TAIL);
        fault("gives -(-(not^(1)))" + TAIL);
        fault("gives -(-(-^(1)))" + TAIL);
        fault("gives not(not(-^-1))" + TAIL);
        fault("gives not not not not not ^(1)" + TAIL);
        fault("gives not not not not not ^-1" + TAIL);
        fault("gives -----^(1)" + TAIL);
    }

    private static void openTill() {
        due.sentence("a ( is open till its )");
        good("gives (((((1)))))+(((((2)))))*(((((3)))))" + TAIL);
        good("gives ((((1))+(((1)))))" + TAIL);
        fault("gives ((((1))+(((^(1))))))" + TAIL);
        good("gives ((((1)+(2))+(3))+(4))+(5)" + TAIL);
        due.sentence("a not is open till what it belongs to ends");
        good("gives not not not not not 1 and not not not not not 2 or not not not not not 3" + TAIL);
        good("gives not not not not not 1 or (((((1)))))" + TAIL);
        good("gives not not not not not 1 and -----1" + TAIL);
        good("gives not not not not(1)and(-2)" + TAIL);
        due.sentence("a not is open in all of its SUMS");
        fault("gives not not not not not 1<^-2" + TAIL);
        fault("gives not not not not not 1=^(2)" + TAIL);
        fault("gives not not not not not 1+^(2)" + TAIL);
        fault("gives not not not not not 1*^-2" + TAIL);
        good("gives not not not not 1<-2" + TAIL);
        due.sentence("a - is open till its ONE ends");
        good("gives -----1*-----2+-----3" + TAIL);
        good("gives -----1<-----2" + TAIL);
        good("gives ----(1)*----(2)" + TAIL);
        good("gives -1*-1*-1*-1*-1*-1*-1" + TAIL);
    }

    private static void openAround() {
        due.sentence("what is open in gives is not open in glads, costs");
        good("gives -----1;glads -----1;costs -----1;");
        good("gives not not not not not 1;glads not not not not not 1;costs (((((1)))));");
        fault("gives -----1;glads -----^-1;costs 1;");
        fault("gives 1;glads 1;costs (((((^(1))))));");
    }

    private static void wholeTape() {
        due.sentence("THE TAPE (160 bytes at most) is a TEXT as a whole");
        StringBuilder whole = new StringBuilder("gives day;glads thing;costs 1");
        while (whole.length() < 159) whole.append(whole.length() % 2 == 1 ? '+' : '2');
        good(whole.append(';').toString());
        whole.setLength(159);
        fault(whole + "^");
        fault(whole + "^)");
        StringBuilder blank = new StringBuilder("gives day;glads thing;costs words;");
        while (blank.length() < 159) blank.append(' ');
        good(blank + " ");
        fault(blank + "^1");
        StringBuilder none = new StringBuilder();
        while (none.length() < 160) none.append('\n');
        fault(none + "^");
    }
}
