/** Compares answers with those that are due, and prints what differs. */
final class Due {
    private int asked = 0;
    private int wrong = 0;

    void is(String what, long got, long want) {
        asked++;
        if (got != want) {
            wrong++;
            System.out.println(what + " answered " + got + ", due is " + want);
        }
    }

    void is(String what, boolean got, boolean want) {
        is(what, got ? 1 : 0, want ? 1 : 0);
    }

    boolean anyWrong() {
        return wrong > 0;
    }

    void end() {
        System.out.println(wrong + " of " + asked + " answers are not as due");
        if (wrong > 0 || asked == 0) {
            System.exit(1);
        }
    }
}
