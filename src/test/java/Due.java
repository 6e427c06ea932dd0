/** Counts the answers that are not due; each test makes one and finishes with it. */
final class Due {
    private int asked = 0;
    private int wrong = 0;

    void is(String call, long want, long got) {
        asked++;
        if (got != want) {
            wrong++;
            if (wrong <= 50) {
                System.out.println(call + " answered " + got + ", due is " + want);
            }
        }
    }

    void holds(String what, boolean truth) {
        is(what, 1, truth ? 1 : 0);
    }

    void finish() {
        System.out.println(wrong == 0 ? "  all " + asked + " answers are as due" : wrong + " of " + asked + " answers are not as due");
        if (wrong != 0 || asked == 0) {
            System.exit(1);
        }
    }
}
