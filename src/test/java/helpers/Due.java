/** Counts the calls whose answer is not the one that is due, and ends the test with 1 if there was one. */
final class Due {
    private static final int PRINTED = 40;

    private final boolean isQuiet;
    private String about = "";
    private int wrong = 0;
    private int looked = 0;

    Due() {
        this(false);
    }

    /** A quiet one only counts. */
    Due(boolean isQuiet) {
        this.isQuiet = isQuiet;
    }

    /** What the answers from now on are looked at for: printed ahead of each that is wrong. */
    void about(String what) {
        about = what + ": ";
    }

    void is(String call, long got, long want) {
        looked++;
        if (got != want) {
            wrong++;
            if (!isQuiet && wrong <= PRINTED) {
                System.out.println(about + call + " answered " + got + ", due is " + want);
            }
        }
    }

    void holds(String what, boolean isSo) {
        is(what, isSo ? 1 : 0, 1);
    }

    int wrong() {
        return wrong;
    }

    int looked() {
        return looked;
    }

    void end() {
        if (wrong != 0) {
            System.out.println(wrong + " of " + looked + " answers are not as due");
            System.exit(1);
        }
    }
}
