/** Counts the calls of one test whose answer is not the one that is due. */
final class Due {
    private final String test;
    private String sentence = "";
    private int calls = 0;
    private int wrong = 0;

    Due(String test) {
        this.test = test;
    }

    /** The words of the document that the answers from here on are due to. */
    void to(String words) {
        sentence = " [" + words + "]";
    }

    void is(String call, int got, int want) {
        calls++;
        if (got != want) {
            wrong++;
            System.out.println(test + sentence + ": " + call + " answered " + got + ", due is " + want);
        }
    }

    void is(Calls x, int got, int want) {
        is(x.last(), got, want);
    }

    void holds(String what, boolean isSo) {
        is(what, isSo ? 1 : 0, 1);
    }

    void end() {
        System.out.println(test + ": " + calls + " answers, " + wrong + " wrong");
        if (wrong != 0) {
            System.exit(1);
        }
    }
}
