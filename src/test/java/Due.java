/** Compares answers with those that are due, and prints what differs. */
final class Due {
    private int asked = 0;
    private int wrong = 0;
    private String about = "";

    /** What the next answers have to do with. */
    void about(String what) {
        about = what.isEmpty() ? "" : what + ": ";
    }

    void is(String what, long got, long want) {
        tell(what, got == want, got, want);
    }

    void is(String what, boolean got, boolean want) {
        tell(what, got == want, got, want);
    }

    void is(String what, String got, String want) {
        tell(what, got.equals(want), got, want);
    }

    private void tell(String what, boolean right, Object got, Object want) {
        asked++;
        if (!right) {
            wrong++;
            System.out.println(about + what + " answered " + got + ", due is " + want);
        }
    }

    int asked() {
        return asked;
    }

    boolean anyWrong() {
        return wrong > 0;
    }

    void end() {
        System.out.println(wrong + " of " + asked + " answers are not as due");
        if (wrong > 0 || asked == 0) {
            System.exit(1);
        }
    }
}
