/** Counts the answers of a test, and prints each that is not the one that is due. */
final class Due {
    private final String test;
    private int right;
    private int wrong;
    private String part = "";

    Due(String test) {
        this.test = test;
    }

    void in(String part) {
        this.part = part;
    }

    void is(String call, long due, long answer) {
        if (due == answer) {
            right++;
        } else {
            wrong++;
            System.out.println(test + ", " + part + ": " + call + " answered " + answer + ", due is " + due);
        }
    }

    /** Ends the program with exit code 1 if an answer was not the one that was due. */
    void end() {
        System.out.println(test + ": " + right + " answers as due, " + wrong + " not");
        if (wrong > 0 || right == 0) {
            System.exit(1);
        }
    }
}
