import java.util.function.Supplier;

/** Holds answers against what is due, sentence by sentence of the document, and tells each that is not. */
final class Due {
    /** A call on a well. */
    interface Call {
        long on(WellGivesOther x);
    }

    private static final int TOLD_AT_MOST = 40;

    private final String promise;
    private String sentence = "";
    private int sentences;
    private int answersHere = 1;
    private int answers;
    private int wrong;

    Due(String promise) {
        this.promise = promise;
    }

    /** What follows, up to the next sentence, holds this one. */
    void sentence(String words) {
        endSentence();
        sentence = words;
        sentences++;
        answersHere = 0;
    }

    void is(String call, long want, long got) {
        answers++;
        answersHere++;
        if (got != want) tellWrong(call + " answered " + got + ", due is " + want);
    }

    void isTrue(String what, boolean so) {
        is(what, 1, so ? 1 : 0);
    }

    /** Each call, on a lively well of its own, answers so, and changes nothing. */
    void refused(long want, Call... calls) {
        refusedBy(Wells::lively, want, calls);
    }

    /** The call, on a lively well, answers so, and changes nothing. */
    void inThought(long want, Call call) {
        refused(want, call);
    }

    /** Each call, on a new well of this make, answers so, and changes nothing. */
    void refusedBy(Supplier<WellGivesOther> make, long want, Call... calls) {
        String untouched = Wells.story(make.get());
        for (int i = 0; i < calls.length; i++) {
            WellGivesOther x = make.get();
            is("call " + i, want, calls[i].on(x));
            isTrue("call " + i + " changes nothing", Wells.story(x).equals(untouched));
        }
    }

    /** Ends the test: the program's end is 1 if an answer was not as due. */
    void end() {
        endSentence();
        System.out.println(promise + ": " + sentences + " sentences, " + answers + " answers, " + wrong + " not as due");
        if (wrong != 0) System.exit(1);
    }

    private void endSentence() {
        if (answersHere == 0) tellWrong("nothing was asked");
    }

    private void tellWrong(String what) {
        wrong++;
        if (wrong <= TOLD_AT_MOST) System.out.println(promise + " [" + sentence + "]: " + what);
    }
}
