/** Counts the answers of one test that are not as due, and tells each of them. */
final class Due {
    private final String test;
    private int asked;
    private int wrong;

    Due(String test) {
        this.test = test;
    }

    void is(String call, long got, long want) {
        asked++;
        if (got != want) {
            wrong++;
            if (wrong <= 20) {
                System.out.println(test + ": " + call + " answered " + got + ", due is " + want);
            }
        }
    }

    void holds(String claim, boolean holds) {
        is(claim, holds ? 1 : 0, 1);
    }

    int wrong() {
        return wrong;
    }

    /** Ends the program. */
    void finish() {
        System.out.println(test + ": " + (asked - wrong) + " of " + asked + " answers are as due");
        System.exit(wrong == 0 && asked > 0 ? 0 : 1);
    }
}
