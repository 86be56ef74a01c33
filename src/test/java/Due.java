/** Compares answers with those that are due; the tests of the project share it. */
final class Due {
    static final long NO_VALUE = Long.MIN_VALUE;

    private static final int MOST_PRINTED = 20;

    private final String test;
    private int calls = 0;
    private int wrong = 0;

    Due(String test) {
        this.test = test;
    }

    void is(String call, long got, long want) {
        calls++;
        if (got != want) {
            wrong++;
            if (wrong <= MOST_PRINTED) {
                System.out.println(test + ": " + call + " answered " + got + ", due is " + want);
            }
        }
    }

    boolean allRight() {
        return wrong == 0;
    }

    void end() {
        System.out.println(test + ": " + calls + " answers, " + wrong + " not as due");
        if (calls == 0 || wrong != 0) {
            System.exit(1);
        }
    }
}
