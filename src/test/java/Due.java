/** Holds answers against those that are due, and prints each that differs. */
final class Due {
    private final String test;
    private String part = "";
    private int underPart = 1;
    private int right;
    private int wrong;

    Due(String test) {
        this.test = test;
    }

    /**
     * What follows is a test of this sentence of the document. The words are the document's own, behind
     * "Promise n: " if they stand there; " [..] " is a gap. EachSentenceTest holds that.
     */
    void says(String words) {
        part(words);
    }

    /** What follows is a part of the test, which asks for one answer at least. */
    void part(String name) {
        endPart();
        part = " [" + name + "]";
        underPart = 0;
    }

    void is(String call, long got, long want) {
        underPart++;
        if (got == want) {
            right++;
            return;
        }
        wrong++;
        System.out.println(test + part + ": " + call + " answered " + got + ", due is " + want);
    }

    void yes(String call, boolean got) {
        is(call, got ? 1 : 0, 1);
    }

    void no(String call, boolean got) {
        is(call, got ? 1 : 0, 0);
    }

    /** Ends the program with exit code 1 if an answer was wrong, or if none was asked for. */
    void end() {
        endPart();
        System.out.println(test + ": " + right + " answers as due, " + wrong + " not");
        if (wrong != 0 || right == 0) {
            System.exit(1);
        }
    }

    private void endPart() {
        if (underPart == 0) {
            wrong++;
            System.out.println(test + part + ": nothing was asked");
        }
    }
}
