/** Promises 9 to 14: apply, ramp, network, fault, healthy and phasor. */
public final class SignalTest {
    private static final Due due = new Due();

    public static void main(String[] args) {
        promise9Apply();
        promise10Ramp();
        promise10Ends();
        promise10Errors();
        promise11Network();
        promise12Fault();
        promise12Places();
        promise12Limits();
        promise12Errors();
        promise13Healthy();
        promise14Phasor();
        due.finish();
    }

    private static void promise9Apply() {
        ZoneRelay relay = new ZoneRelay();
        due.is("apply at the time 0", 0, relay.apply(1, -2, 3, -4));
        due.phasors("apply", relay, 1, -2, 3, -4);
        relay.pass(7);
        due.is("apply at the time 7", 7, relay.apply(20000, -20000, -20000, 20000));
        due.phasors("apply to the limits", relay, 20000, -20000, -20000, 20000);
        for (int place = 0; place < 4; place++) {
            for (int wrong : new int[] {20001, -20001, Integer.MIN_VALUE, Integer.MAX_VALUE}) {
                int[] n = new int[4];
                n[place] = wrong;
                due.is("apply with " + wrong, ZoneRelay.BAD_VALUE, relay.apply(n[0], n[1], n[2], n[3]));
            }
        }
        due.phasors("an error changes nothing", relay, 20000, -20000, -20000, 20000);
    }

    private static void promise10Ramp() {
        ZoneRelay relay = new ZoneRelay();
        relay.apply(0, 100, -100, 7);
        relay.pass(2);
        due.is("ramp", 2, relay.ramp(3, -10, 90, -90, 20000));
        due.phasors("before its first sample", relay, 0, 100, -100, 7);
        due.is("left", 3, relay.phasor(4));
        relay.pass(1);
        due.phasors("1 of 3", relay, -3, 97, -97, 6671);
        due.is("left", 2, relay.phasor(4));
        relay.pass(1);
        due.phasors("2 of 3", relay, -6, 94, -94, 13335);
        relay.pass(1);
        due.phasors("3 of 3", relay, -10, 90, -90, 20000);
        due.is("left", 0, relay.phasor(4));
        relay.pass(5);
        due.phasors("after it", relay, -10, 90, -90, 20000);
        relay.ramp(2400, -20000, 20000, 20000, -20000);
        relay.pass(2399);
        due.phasors("almost", relay, -19991, 19991, 19991, -19983);
        due.is("left", 1, relay.phasor(4));
        relay.pass(1);
        due.phasors("there", relay, -20000, 20000, 20000, -20000);
    }

    private static void promise10Ends() {
        ZoneRelay relay = new ZoneRelay();
        relay.ramp(10, 1000, 0, 0, 0);
        relay.pass(5);
        relay.ramp(10, 0, 0, 0, 1000);
        due.is("a ramp begins anew", 10, relay.phasor(4));
        relay.pass(1);
        due.phasors("from the present phasors", relay, 450, 0, 0, 100);
        due.is("an apply that fails", ZoneRelay.BAD_VALUE, relay.apply(0, 0, 0, 20001));
        due.is("leaves the ramp", 9, relay.phasor(4));
        relay.apply(5, 5, 5, 5);
        due.is("an apply ends it", 0, relay.phasor(4));
        relay.pass(3);
        due.phasors("and it is gone", relay, 5, 5, 5, 5);
        relay.ramp(10, 0, 0, 0, 1000);
        relay.fault(0, 20001);
        due.is("a fault that fails leaves it", 10, relay.phasor(4));
        relay.fault(0, 0);
        due.is("a fault ends it", 0, relay.phasor(4));
        relay.ramp(10, 0, 0, 0, 1000);
        relay.network(0, 5000, 0);
        due.is("network leaves it", 10, relay.phasor(4));
        relay.healthy();
        due.is("healthy ends it", 0, relay.phasor(4));
        relay.ramp(1, 8, 9, 10, 11);
        due.phasors("healthy stands until the sample", relay, 4891, -194, 203, -89);
        relay.pass(1);
        due.phasors("a ramp of one sample", relay, 8, 9, 10, 11);
    }

    private static void promise10Errors() {
        ZoneRelay relay = new ZoneRelay();
        relay.ramp(6, 1, 1, 1, 1);
        due.is("0 samples", ZoneRelay.BAD_VALUE, relay.ramp(0, 0, 0, 0, 0));
        due.is("-1 samples", ZoneRelay.BAD_VALUE, relay.ramp(-1, 0, 0, 0, 0));
        due.is("2401 samples", ZoneRelay.BAD_VALUE, relay.ramp(2401, 0, 0, 0, 0));
        for (int place = 0; place < 4; place++) {
            for (int wrong : new int[] {20001, -20001, Integer.MIN_VALUE}) {
                int[] n = new int[4];
                n[place] = wrong;
                due.is("ramp to " + wrong, ZoneRelay.BAD_VALUE, relay.ramp(10, n[0], n[1], n[2], n[3]));
            }
        }
        due.is("the ramp before stays", 6, relay.phasor(4));
        relay.pass(6);
        due.phasors("and its targets", relay, 1, 1, 1, 1);
    }

    private static void promise11Network() {
        ZoneRelay relay = new ZoneRelay();
        relay.apply(1, 2, 3, 4);
        due.is("E", 10000, relay.network(0, 20000, 0));
        due.is("E 1", 20000, relay.network(0, 1, 0));
        due.is("E 0", ZoneRelay.BAD_VALUE, relay.network(0, 0, 0));
        due.is("E 20001", ZoneRelay.BAD_VALUE, relay.network(0, 20001, 0));
        due.is("E with a second value", ZoneRelay.BAD_VALUE, relay.network(0, 5, 1));
        due.is("E with a second value below 0", ZoneRelay.BAD_VALUE, relay.network(0, 5, -1));
        int[] first = {0, 100, 500, 20000};
        for (int part = 1; part < 4; part++) {
            due.is("part " + part, first[part], relay.network(part, 20000, 0));
            due.is("part " + part, 20000, relay.network(part, 0, 20000));
            due.is("r -1", ZoneRelay.BAD_VALUE, relay.network(part, -1, 0));
            due.is("r 20001", ZoneRelay.BAD_VALUE, relay.network(part, 20001, 0));
            due.is("x -1", ZoneRelay.BAD_VALUE, relay.network(part, 0, -1));
            due.is("x 20001", ZoneRelay.BAD_VALUE, relay.network(part, 0, 20001));
            due.is("an error changes nothing", 0, relay.count(2 + 2 * part));
            due.is("an error changes nothing", 20000, relay.count(3 + 2 * part));
        }
        due.is("part -1", ZoneRelay.BAD_VALUE, relay.network(-1, 1, 0));
        due.is("part 4", ZoneRelay.BAD_VALUE, relay.network(4, 1, 0));
        due.is("E stays", 1, relay.count(3));
        due.phasors("the phasors stay", relay, 1, 2, 3, 4);
    }

    private static void promise12Fault() {
        ZoneRelay relay = new ZoneRelay();
        relay.network(1, 0, 1000);
        relay.network(2, 0, 4000);
        relay.pass(3);
        due.is("fault(500, 0)", 3, relay.fault(500, 0));
        due.phasors("a fault in the middle", relay, 6667, 0, 0, -3333);
        // R = 3 + 7 + 1 = 11, X = 2 + 5 = 7, D = 170, with 9 * 777 / 1000 = 6, 7 * 777 / 1000 = 5, and E = 13
        relay.network(0, 13, 0);
        relay.network(1, 3, 2);
        relay.network(2, 9, 7);
        relay.fault(777, 2);
        due.phasors("truncated at each step", relay, 10, 0, 841, -535);
        relay.network(2, 20000, 20000);
        due.is("fault(1000, 20000)", 3, relay.fault(1000, 20000));
        // R = 40003, X = 20002, D = 2000320013: no current is left of 13 volts
        due.phasors("a far one", relay, 13, 0, 0, 0);
        // the place is truncated, the resistance is not: 3 * 500 / 1000 = 1
        relay.network(0, 10000, 0);
        relay.network(1, 0, 10000);
        relay.network(2, 3, 0);
        relay.fault(500, 9999);
        due.phasors("R = X = 10000", relay, 5000, -5000, 500, -500);
    }

    private static void promise12Places() {
        for (int place = 0; place <= 1000; place++) {
            ZoneRelay alongR = new ZoneRelay();
            alongR.network(0, 20000, 0);
            alongR.network(1, 1000, 0);
            alongR.network(2, 19999, 0);
            alongR.fault(place, 3);
            int current = 20000000 / (1000 + 19999 * place / 1000 + 3);
            due.phasors("R at " + place, alongR, 20000 - current * 1000 / 1000, 0, current, 0);
            ZoneRelay alongX = new ZoneRelay();
            alongX.network(0, 20000, 0);
            alongX.network(1, 0, 1000);
            alongX.network(2, 0, 19999);
            alongX.fault(place, 0);
            current = 20000000 / (1000 + 19999 * place / 1000);
            due.phasors("X at " + place, alongX, 20000 - current * 1000 / 1000, 0, 0, -current);
        }
    }

    private static void promise12Limits() {
        ZoneRelay relay = new ZoneRelay();
        relay.network(1, 0, 1);
        relay.network(2, 0, 0);
        relay.fault(0, 0);
        due.phasors("the voltage is made of the whole current", relay, 0, 0, 0, -20000);
        relay.network(1, 1, 0);
        relay.fault(0, 0);
        due.phasors("the other way", relay, 0, 0, 20000, 0);
        // D = 400010000, and 20000 - (400 + 19980000) / 1000, and -(80000 - 99900) / 1000
        relay.network(0, 20000, 0);
        relay.network(1, 100, 20000);
        relay.fault(0, 0);
        due.phasors("a bolted fault", relay, 20, 19, 4, -999);
    }

    private static void promise12Errors() {
        ZoneRelay relay = new ZoneRelay();
        relay.apply(1, 2, 3, 4);
        due.is("place -1", ZoneRelay.BAD_VALUE, relay.fault(-1, 0));
        due.is("place 1001", ZoneRelay.BAD_VALUE, relay.fault(1001, 0));
        due.is("resistance -1", ZoneRelay.BAD_VALUE, relay.fault(0, -1));
        due.is("resistance 20001", ZoneRelay.BAD_VALUE, relay.fault(0, 20001));
        relay.network(1, 0, 0);
        due.is("a wrong value comes before no phasors", ZoneRelay.BAD_VALUE, relay.fault(0, 20001));
        due.is("no phasors", ZoneRelay.NOT_POSSIBLE, relay.fault(0, 0));
        due.phasors("an error changes nothing", relay, 1, 2, 3, 4);
        due.is("a resistance is enough", 0, relay.fault(0, 1));
        relay.network(2, 0, 1);
        due.is("999 mille of a milliohm are none", ZoneRelay.NOT_POSSIBLE, relay.fault(999, 0));
        due.is("1000 are one", 0, relay.fault(1000, 0));
    }

    private static void promise13Healthy() {
        ZoneRelay relay = new ZoneRelay();
        relay.pass(2);
        due.is("healthy()", 2, relay.healthy());
        due.phasors("healthy", relay, 9782, -389, 407, -178);
        relay.network(1, 0, 0);
        relay.network(2, 0, 0);
        relay.network(3, 0, 0);
        due.is("healthy() without an impedance", ZoneRelay.NOT_POSSIBLE, relay.healthy());
        due.phasors("an error changes nothing", relay, 9782, -389, 407, -178);
        relay.network(3, 0, 1);
        due.is("healthy() with a bit of it", 2, relay.healthy());
        due.phasors("limited", relay, 10000, 0, 0, -20000);
        relay.network(2, 0, 19999);
        relay.healthy();
        due.phasors("the whole line counts", relay, 10000, 0, 0, -500);
    }

    private static void promise14Phasor() {
        ZoneRelay relay = new ZoneRelay();
        due.is("phasor(-1)", ZoneRelay.GONE + ZoneRelay.BAD_VALUE, relay.phasor(-1));
        due.is("phasor(5)", ZoneRelay.GONE + ZoneRelay.BAD_VALUE, relay.phasor(5));
        due.is("no ramp", 0, relay.phasor(4));
        relay.ramp(2400, 1, 1, 1, 1);
        due.is("a ramp", 2400, relay.phasor(4));
        relay.pass(2000);
        due.is("less of it", 400, relay.phasor(4));
        relay.pass(5000);
        due.is("none of it", 0, relay.phasor(4));
        due.phasors("at its end", relay, 1, 1, 1, 1);
    }
}
