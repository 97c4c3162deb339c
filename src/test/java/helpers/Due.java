/** Counts the calls whose answer is not the one that is due, and ends the test with 1 if there was one. */
final class Due {
    private int wrong = 0;
    private int looked = 0;

    void is(String call, long got, long want) {
        looked++;
        if (got != want) {
            wrong++;
            if (wrong <= 40) {
                System.out.println(call + " answered " + got + ", due is " + want);
            }
        }
    }

    void holds(String what, boolean isSo) {
        is(what, isSo ? 1 : 0, 1);
    }

    void end() {
        if (wrong != 0) {
            System.out.println(wrong + " of " + looked + " answers are not as due");
            System.exit(1);
        }
    }
}
