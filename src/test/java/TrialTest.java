/** Promises 21 to 24: covers, reach, test and forecast, which change nothing. */
public final class TrialTest {
    private static final Due due = new Due();

    public static void main(String[] args) {
        promise21Covers();
        promise21ExactAndMinimum();
        promise21Errors();
        promise22Reach();
        promise22Gaps();
        promise22Errors();
        promise23Test();
        promise23Before();
        promise23Errors();
        promise24Forecast();
        promise24Errors();
        nothingChanges();
        due.finish();
    }

    /** A line of 4000 milliohms of reactance behind a source of 1000, and zones up to 2000, 4000 and 8000. */
    private static ZoneRelay line() {
        ZoneRelay relay = new ZoneRelay();
        relay.network(1, 0, 1000);
        relay.network(2, 0, 4000);
        Shapes.box(relay, 0, -500, -100, 500, 2000);
        Shapes.box(relay, 1, -500, -100, 500, 4000);
        Shapes.box(relay, 2, -500, -100, 500, 8000);
        return relay;
    }

    private static void promise21Covers() {
        ZoneRelay relay = line();
        due.is("near", 7, relay.covers(200, 0));
        // 6667 / 3333 is more than 2
        due.is("just too far for the zone 0", 6, relay.covers(500, 0));
        due.is("in the zone 0", 7, relay.covers(499, 0));
        due.is("far", 6, relay.covers(900, 0));
        due.is("with a resistance", 0, relay.covers(200, 600));
        due.is("with a small one", 7, relay.covers(200, 400));
        relay.clear(1);
        due.is("without the zone 1", 5, relay.covers(200, 0));
        Shapes.box(relay, ZoneRelay.INNER, -20000, -20000, 20000, 20000);
        relay.set(ZoneRelay.LOAD_FROM, 0);
        relay.set(ZoneRelay.LOAD_SLOPE, 10000);
        relay.set(ZoneRelay.LOAD_ZONES, 7);
        relay.zone(0, 4, ZoneRelay.REVERSE);
        due.is("without loads and directions", 5, relay.covers(200, 0));
        relay.apply(0, 0, 0, 0);
        due.is("whatever the phasors are", 5, relay.covers(200, 0));
    }

    private static void promise21ExactAndMinimum() {
        ZoneRelay relay = line();
        relay.fault(500, 0);
        due.is("the voltage", 6667, relay.phasor(0));
        due.is("the current", -3333, relay.phasor(3));
        Shapes.box(relay, 0, 0, 0, 1, 2000);
        Shapes.box(relay, 1, 0, 0, 1, 2001);
        relay.clear(2);
        due.is("2000 and a bit", 2, relay.covers(500, 0));
        relay.set(ZoneRelay.MINIMUM, 3333);
        due.is("just at the minimum", 2, relay.covers(500, 0));
        relay.set(ZoneRelay.MINIMUM, 3334);
        due.is("below the minimum", 0, relay.covers(500, 0));
        relay.network(0, 1, 0);
        relay.set(ZoneRelay.MINIMUM, 1);
        due.is("no current at all", 0, relay.covers(500, 20000));
        // the current is limited to 20000 amperes: 10000 / 20000 is seen where no impedance is
        relay.network(0, 20000, 0);
        relay.network(1, 0, 0);
        relay.network(2, 0, 10);
        Shapes.box(relay, 0, -1, 999, 1, 1001);
        Shapes.box(relay, 1, -1, 0, 1, 999);
        due.is("the phasors are the limited ones", 1, relay.covers(100, 0));
    }

    private static void promise21Errors() {
        ZoneRelay relay = line();
        due.is("place -1", ZoneRelay.BAD_VALUE, relay.covers(-1, 0));
        due.is("place 1001", ZoneRelay.BAD_VALUE, relay.covers(1001, 0));
        due.is("resistance -1", ZoneRelay.BAD_VALUE, relay.covers(0, -1));
        due.is("resistance 20001", ZoneRelay.BAD_VALUE, relay.covers(0, 20001));
        due.is("the greatest", 0, relay.covers(1000, 20000));
        relay.network(1, 0, 0);
        due.is("no phasors", ZoneRelay.NOT_POSSIBLE, relay.covers(0, 0));
        due.is("a wrong value comes first", ZoneRelay.BAD_VALUE, relay.covers(0, -1));
    }

    private static void promise22Reach() {
        ZoneRelay relay = line();
        due.is("the zone 0", 499, relay.reach(0, 0));
        due.is("the zone 2", 1000, relay.reach(2, 0));
        due.is("too much resistance", ZoneRelay.NONE, relay.reach(2, 501));
        Shapes.box(relay, 1, -500, -100, 500, 0);
        due.is("the beginning alone", 0, relay.reach(1, 0));
        relay.clear(1);
        due.is("no polygon", ZoneRelay.NONE, relay.reach(1, 0));
        relay.set(ZoneRelay.MINIMUM, 20000);
        due.is("too small a current", ZoneRelay.NONE, relay.reach(2, 0));
        relay.set(ZoneRelay.MINIMUM, 2500);
        // 10000000 / (1000 + 4 p) is at least 2500 up to p = 750
        due.is("the current decides", 750, relay.reach(2, 0));
    }

    private static void promise22Gaps() {
        ZoneRelay relay = line();
        Shapes.box(relay, 0, -500, 1000, 500, 4001);
        due.is("covered from 250 on", 1, relay.covers(251, 0) & 1);
        due.is("but not at the beginning", ZoneRelay.NONE, relay.reach(0, 0));
        relay.network(1, 0, 0);
        relay.network(2, 0, 10000);
        Shapes.box(relay, 0, -20000, -20000, 20000, 20000);
        due.is("covered from 1 on", 1, relay.covers(1, 0) & 1);
        due.is("a place without phasors is not covered", ZoneRelay.NONE, relay.reach(0, 0));
        due.is("with a resistance it has some", 1000, relay.reach(0, 1));
    }

    private static void promise22Errors() {
        ZoneRelay relay = line();
        due.is("zone -1", ZoneRelay.NO_SUCH, relay.reach(-1, 0));
        due.is("zone 3", ZoneRelay.NO_SUCH, relay.reach(3, 0));
        due.is("no zone comes first", ZoneRelay.NO_SUCH, relay.reach(3, -1));
        due.is("resistance -1", ZoneRelay.BAD_VALUE, relay.reach(0, -1));
        due.is("resistance 20001", ZoneRelay.BAD_VALUE, relay.reach(0, 20001));
        due.is("resistance 20000", ZoneRelay.NONE, relay.reach(0, 20000));
    }

    /** What test() is to answer, by the calls that it stands for. */
    private static int byHand(ZoneRelay relay, int place, int resistance, int samples, int what) {
        relay.save(1);
        relay.reset();
        relay.healthy();
        relay.pass(48);
        relay.fault(place, resistance);
        int passed = 0;
        while (passed < samples && relay.tripped() == ZoneRelay.NONE) {
            relay.pass(1);
            passed++;
        }
        int zone = relay.tripped();
        relay.restore(1);
        return zone == ZoneRelay.NONE || what == 1 ? zone : passed;
    }

    private static void promise23Test() {
        ZoneRelay relay = line();
        due.is("a near fault", 18, relay.test(200, 0, 50, 0));
        due.is("its zone", 0, relay.test(200, 0, 50, 1));
        due.is("just in time", 18, relay.test(200, 0, 18, 0));
        due.is("too short a time", ZoneRelay.NONE, relay.test(200, 0, 17, 0));
        due.is("no zone", ZoneRelay.NONE, relay.test(200, 0, 17, 1));
        due.is("a far fault", ZoneRelay.NONE, relay.test(900, 0, 50, 0));
        int far = relay.test(900, 0, 2400, 0);
        due.holds("a far fault takes the delay of the zone 1: " + far, far > 480 && far < 510);
        due.is("its zone", 1, relay.test(900, 0, 2400, 1));
        relay.zone(0, 1, ZoneRelay.REVERSE);
        due.is("against its direction", ZoneRelay.NONE, relay.test(200, 0, 50, 0));
        relay.zone(0, 9, ZoneRelay.FORWARD);
        relay.apply(1000, 3000, 4000, 1000);
        relay.pass(13);
        relay.ramp(100, 20000, 0, 0, 3000);
        relay.pass(1);
        for (int place = 0; place <= 1000; place += 100) {
            for (int resistance = 0; resistance < 800; resistance += 200) {
                for (int what = 0; what < 2; what++) {
                    int want = byHand(relay, place, resistance, 60, what);
                    due.is("test at " + place + " with " + resistance, want, relay.test(place, resistance, 60, what));
                }
            }
        }
    }

    private static void promise23Before() {
        ZoneRelay relay = line();
        Shapes.box(relay, 2, -20000, -20000, 20000, 20000);
        relay.network(3, 2000, 1000);
        relay.zone(2, 10, ZoneRelay.BOTH);
        due.is("tripped before the fault", 0, relay.test(200, 0, 50, 0));
        due.is("by the zone 2", 2, relay.test(200, 0, 50, 1));
        relay.zone(0, 1, ZoneRelay.BOTH);
        relay.zone(2, 47, ZoneRelay.BOTH);
        due.is("just before the fault", 0, relay.test(999, 0, 1, 0));
        relay.zone(2, 49, ZoneRelay.BOTH);
        relay.healthy();
        relay.pass(24);
        relay.reset();
        due.is("with its first sample", 1, relay.test(999, 0, 1, 0));
        relay.zone(2, 48, ZoneRelay.BOTH);
        due.is("with the last one before it", 0, relay.test(999, 0, 1, 0));
        relay.zone(2, 1, ZoneRelay.BOTH);
        relay.pass(1);
        relay.clear(2);
        due.is("tripped now", 2, relay.tripped());
        due.is("it is reset first", byHand(relay, 999, 0, 30, 0), relay.test(999, 0, 30, 0));
        due.is("and so another zone trips it", 0, relay.test(200, 0, 50, 1));
    }

    private static void promise23Errors() {
        ZoneRelay relay = line();
        due.is("place -1", ZoneRelay.BAD_VALUE, relay.test(-1, 0, 1, 0));
        due.is("place 1001", ZoneRelay.BAD_VALUE, relay.test(1001, 0, 1, 0));
        due.is("resistance -1", ZoneRelay.BAD_VALUE, relay.test(0, -1, 1, 0));
        due.is("resistance 20001", ZoneRelay.BAD_VALUE, relay.test(0, 20001, 1, 0));
        due.is("samples 0", ZoneRelay.BAD_VALUE, relay.test(0, 0, 0, 0));
        due.is("samples 2401", ZoneRelay.BAD_VALUE, relay.test(0, 0, 2401, 0));
        due.is("what -1", ZoneRelay.BAD_VALUE, relay.test(0, 0, 1, -1));
        due.is("what 2", ZoneRelay.BAD_VALUE, relay.test(0, 0, 1, 2));
        due.is("none of these", ZoneRelay.NONE, relay.test(1000, 20000, 2400, 1));
        relay.network(1, 0, 0);
        due.is("no phasors of the fault", ZoneRelay.NOT_POSSIBLE, relay.test(0, 0, 1, 0));
        due.is("a wrong value comes first", ZoneRelay.BAD_VALUE, relay.test(0, 0, 1, 2));
        relay.network(2, 0, 0);
        relay.network(3, 0, 0);
        due.is("no phasors without a fault", ZoneRelay.NOT_POSSIBLE, relay.test(0, 5, 1, 0));
        relay.network(3, 1, 0);
        due.is("phasors of both", ZoneRelay.NONE, relay.test(0, 5, 1, 0));
    }

    private static void promise24Forecast() {
        ZoneRelay relay = line();
        relay.fault(200, 0);
        int samples = relay.forecast(5000);
        due.holds("it trips: " + samples, samples > 4);
        due.is("just in time", samples, relay.forecast(samples));
        due.is("too short a time", ZoneRelay.NONE, relay.forecast(samples - 1));
        relay.pass(samples - 1);
        due.is("one before", ZoneRelay.NONE, relay.tripped());
        due.is("one more sample", 1, relay.forecast(1));
        relay.pass(1);
        due.is("tripped", 0, relay.tripped());
        due.is("already", 0, relay.forecast(1));
        relay.reset();
        due.is("its delay again", 4, relay.forecast(100));
        relay.apply(5000, 0, 500, 0);
        relay.pass(24);
        relay.ramp(100, 1000, 1000, 2000, 0);
        int onTheWay = relay.forecast(100);
        relay.pass(onTheWay);
        due.is("a ramp goes on in it", 0, relay.tripped());
    }

    private static void promise24Errors() {
        ZoneRelay relay = line();
        due.is("forecast(0)", ZoneRelay.BAD_VALUE, relay.forecast(0));
        due.is("forecast(-1)", ZoneRelay.BAD_VALUE, relay.forecast(-1));
        due.is("forecast(5001)", ZoneRelay.BAD_VALUE, relay.forecast(5001));
        due.is("forecast(5000)", ZoneRelay.NONE, relay.forecast(5000));
        relay.zone(0, 1, ZoneRelay.BOTH);
        relay.fault(200, 0);
        relay.pass(48);
        due.is("a wrong value comes before being tripped", ZoneRelay.BAD_VALUE, relay.forecast(0));
    }

    private static void nothingChanges() {
        ZoneRelay relay = line();
        Shapes.box(relay, ZoneRelay.OUTER, -5000, -5000, 9000, 9000);
        Shapes.box(relay, ZoneRelay.INNER, -500, -100, 500, 2500);
        relay.set(ZoneRelay.SWING_TIME, 3);
        relay.fault(700, 0);
        relay.pass(33);
        relay.ramp(20, 4000, 100, 3000, -2000);
        relay.pass(6);
        relay.say('5');
        relay.save(0);
        String before = Shapes.everything(relay);
        relay.covers(200, 0);
        relay.reach(0, 0);
        relay.test(200, 0, 500, 0);
        relay.test(900, 0, 500, 1);
        relay.forecast(5000);
        due.holds("tests change nothing", before.equals(Shapes.everything(relay)));
        due.is("nor the pad", 1, relay.count(2));
        relay.pass(40);
        String later = Shapes.everything(relay);
        relay.restore(0);
        due.holds("nor what is saved", before.equals(Shapes.everything(relay)));
        relay.pass(40);
        due.holds("and the relay goes on as without them", later.equals(Shapes.everything(relay)));
    }
}
