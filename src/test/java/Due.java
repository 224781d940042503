/** Holds answers against those that are due, and prints each that differs. */
final class Due {
    private final String test;
    private String sentence = "";
    private int underSentence = 1;
    private int right;
    private int wrong;

    Due(String test) {
        this.test = test;
    }

    /** What follows is a test of this sentence of the document, which asks for one answer at least. */
    void says(String words) {
        endSentence();
        sentence = " [" + words + "]";
        underSentence = 0;
    }

    void is(String call, long got, long want) {
        underSentence++;
        if (got == want) {
            right++;
            return;
        }
        wrong++;
        System.out.println(test + sentence + ": " + call + " answered " + got + ", due is " + want);
    }

    void yes(String call, boolean got) {
        is(call, got ? 1 : 0, 1);
    }

    void no(String call, boolean got) {
        is(call, got ? 1 : 0, 0);
    }

    /** Ends the program with exit code 1 if an answer was wrong, or if none was asked for. */
    void end() {
        endSentence();
        System.out.println(test + ": " + right + " answers as due, " + wrong + " not");
        if (wrong != 0 || right == 0) {
            System.exit(1);
        }
    }

    private void endSentence() {
        if (underSentence == 0) {
            wrong++;
            System.out.println(test + sentence + ": nothing was asked");
        }
    }
}
