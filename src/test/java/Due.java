/** Counts the answers that are not due; each test makes one and finishes with it. */
final class Due {
    private int asked = 0;
    private int wrong = 0;
    private String test = "";

    /** The answers from here on belong to the test of this name. */
    void begin(String name) {
        test = name + ": ";
    }

    void is(String call, long want, long got) {
        asked++;
        if (got != want) {
            tell(call + " answered " + got + ", due is " + want);
        }
    }

    void holds(String what, boolean truth) {
        is(what, 1, truth ? 1 : 0);
    }

    void same(String what, String want, String got) {
        asked++;
        if (!got.equals(want)) {
            tell(what + ": " + got + ", due is " + want);
        }
    }

    /** The phasors of a relay are these now. */
    void phasors(String what, ZoneRelay relay, long... want) {
        String[] names = {"va", "vb", "ia", "ib"};
        for (int i = 0; i < 4; i++) {
            is(what + ": " + names[i], want[i], relay.phasor(i));
        }
    }

    /** The estimates of a relay's latest sample are these. */
    void estimates(String what, ZoneRelay relay, long... want) {
        String[] names = {"va", "vb", "ia", "ib"};
        for (int i = 0; i < 4; i++) {
            is(what + ": " + names[i], want[i], relay.measure(i));
        }
    }

    private void tell(String what) {
        wrong++;
        if (wrong <= 50) {
            System.out.println(test + what);
        }
    }

    void finish() {
        System.out.println(wrong == 0 ? "  all " + asked + " answers are as due" : wrong + " of " + asked + " answers are not as due");
        if (wrong != 0 || asked == 0) {
            System.exit(1);
        }
    }
}
