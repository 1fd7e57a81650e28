/** Counts the calls of one test whose answer is not the one that is due. */
final class Due {
    private final String test;
    private int calls = 0;
    private int wrong = 0;

    Due(String test) {
        this.test = test;
    }

    void is(String call, int got, int want) {
        calls++;
        if (got != want) {
            wrong++;
            System.out.println(test + ": " + call + " answered " + got + ", due is " + want);
        }
    }

    void holds(String what, boolean isSo) {
        is(what, isSo ? 1 : 0, 1);
    }

    void end() {
        System.out.println(test + ": " + calls + " answers, " + wrong + " wrong");
        if (wrong != 0) {
            System.exit(1);
        }
    }
}
