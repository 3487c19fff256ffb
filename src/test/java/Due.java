/** Counts and prints the answers of one test that are not as due. */
final class Due {
    private final String test;
    private int asked;
    private int wrong;

    Due(String test) {
        this.test = test;
    }

    /** A run of its own for a sentence of the document, which is told with every wrong answer. */
    Run of(String sentence) {
        return new Run(this, "\"" + sentence + "\"");
    }

    void is(String call, long got, long want) {
        asked++;
        if (got != want) {
            wrong++;
            System.out.println(test + ": " + call + " answered " + got + ", due is " + want);
        }
    }

    void holds(String what, boolean holds) {
        asked++;
        if (!holds) {
            wrong++;
            System.out.println(test + ": " + what + " does not hold");
        }
    }

    /** To be called last: ends the program with 1 if something was wrong. */
    void end() {
        System.out.println(test + ": " + asked + " answers looked at, " + wrong + " wrong");
        if (wrong != 0 || asked == 0) {
            System.exit(1);
        }
    }
}
