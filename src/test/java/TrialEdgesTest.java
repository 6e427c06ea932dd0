/** Boundary cases of the promises 21 to 24. */
public final class TrialEdgesTest {
    private static final Edges edges = new Edges();
    private static final Due due = edges.due;
    private static final int NONE = ZoneRelay.NONE;
    private static final int BOTH = ZoneRelay.BOTH;

    public static void main(String[] args) {
        covers();
        coversEdges();
        coversMinimum();
        reach();
        reachEdges();
        test();
        testErrors();
        testBeforeTheFault();
        testInTime();
        forecast();
        forecastInTime();
        nothingChanges();
        edges.finish("CONVENTIONS", "21", "22", "23", "24");
    }

    private static void withoutSource(ZoneRelay relay) {
        relay.network(1, 0, 0);
    }

    /** A line of 4000 milliohms of reactance behind a source of 1000. */
    private static ZoneRelay line() {
        ZoneRelay relay = new ZoneRelay();
        relay.network(1, 0, 1000);
        relay.network(2, 0, 4000);
        return relay;
    }

    /** A line without a source impedance, on which place p is at (p, 0), seen by 20000000 / p amperes. */
    private static ZoneRelay plainLine() {
        ZoneRelay relay = new ZoneRelay();
        relay.network(0, 20000, 0);
        relay.network(1, 0, 0);
        relay.network(2, 1000, 0);
        return relay;
    }

    // ---- covers

    private static void covers() {
        edges.range("21: place is 0 to 1000, else BAD_VALUE", ZoneRelay.BAD_VALUE, 0, 1000, (relay, n) -> relay.covers(n, 5));
        edges.range("21: resistance is 0 to 20000, else BAD_VALUE", ZoneRelay.BAD_VALUE, 0, 20000, (relay, n) -> relay.covers(5, n));
        edges.refused("21: NOT_POSSIBLE if there are no such phasors", ZoneRelay.NOT_POSSIBLE,
            TrialEdgesTest::withoutSource, relay -> relay.covers(0, 0));
        edges.refused("21: BAD_VALUE for the resistance is checked before NOT_POSSIBLE", ZoneRelay.BAD_VALUE,
            TrialEdgesTest::withoutSource, relay -> relay.covers(0, -1));
        edges.refused("21: BAD_VALUE for the place is checked before NOT_POSSIBLE", ZoneRelay.BAD_VALUE, relay -> {
            relay.network(1, 0, 0);
            relay.network(2, 0, 0);
        }, relay -> relay.covers(1001, 0));
        edges.test("21: there are phasors if D is 1", () -> {
            ZoneRelay relay = line();
            relay.network(1, 0, 0);
            due.is("nothing", ZoneRelay.NOT_POSSIBLE, relay.covers(0, 0));
            due.is("a resistance of 1", 0, relay.covers(0, 1));
            due.is("a reactance of 4", 0, relay.covers(1, 0));
        });
        edges.test("21: the set of the zones, from none to all", () -> {
            for (int zones = 0; zones <= 7; zones++) {
                ZoneRelay relay = line();
                for (int zone = 0; zone < 5; zone++) {
                    if (zone > 2 || (zones >> zone & 1) == 1) {
                        Shapes.box(relay, zone, -20000, -20000, 20000, 20000);
                    }
                }
                due.is("covers", zones, relay.covers(500, 100));
            }
        });
    }

    private static void coversAt(String what, int want, int left, int bottom, int right, int top) {
        ZoneRelay relay = line();
        relay.network(0, 4000, 0);
        relay.network(1, 0, 0);
        Shapes.box(relay, 1, left, bottom, right, top);
        due.is(what, 2 * want, relay.covers(500, 0));
    }

    private static void coversEdges() {
        edges.test("21: a fault on the edge of a zone lies in it, one just beyond does not", () -> {
            // 4000 volts and 2000 amperes: the point (0, 2000)
            coversAt("upper edge", 1, -5, 0, 5, 2000);
            coversAt("above it", 0, -5, 0, 5, 1999);
            coversAt("lower edge", 1, -5, 2000, 5, 3000);
            coversAt("below it", 0, -5, 2001, 5, 3000);
            coversAt("right edge", 1, -5, 0, 0, 3000);
            coversAt("right of it", 0, -5, 0, -1, 3000);
            coversAt("left edge", 1, 0, 0, 5, 3000);
            coversAt("left of it", 0, 1, 0, 5, 3000);
            coversAt("a corner", 1, 0, 2000, 5, 3000);
        });
        edges.test("21: the point is compared exactly, not rounded", () -> {
            ZoneRelay relay = line();
            // 6667 volts and 3333 amperes: the point (0, 2000.3)
            Shapes.box(relay, 0, -5, 0, 5, 2000);
            Shapes.box(relay, 1, -5, 0, 5, 2001);
            Shapes.box(relay, 2, -5, 2001, 5, 3000);
            due.is("covers", 2, relay.covers(500, 0));
        });
        edges.test("21: a zone without a sound polygon covers nothing", () -> {
            ZoneRelay relay = line();
            Shapes.corners(relay, 0, -2000, -2000, -2000, 9000, 2000, 9000, 2000, -2000);
            Shapes.corners(relay, 1, -2000, -2000, 2000, -2000);
            due.is("covers", 0, relay.covers(500, 0));
        });
        edges.test("21: without directions, loads and swings", () -> {
            ZoneRelay relay = Busy.relay();
            for (int zone = 0; zone < 3; zone++) {
                Shapes.box(relay, zone, -20000, -20000, 20000, 20000);
                relay.zone(zone, 1, ZoneRelay.REVERSE);
            }
            relay.set(ZoneRelay.LOAD_FROM, 0);
            relay.set(ZoneRelay.LOAD_SLOPE, 10000);
            relay.set(ZoneRelay.LOAD_ZONES, 7);
            relay.set(ZoneRelay.SWING_ZONES, 7);
            due.is("there is a swing", 1, relay.measure(11));
            due.is("covers", 7, relay.covers(500, 100));
        });
    }

    private static void coversMinimum() {
        edges.test("21: 0 if the current is less than MINIMUM, not if it is just as much", () -> {
            ZoneRelay relay = plainLine();
            Shapes.box(relay, 0, -20000, -20000, 20000, 20000);
            relay.set(ZoneRelay.MINIMUM, 2000);
            due.is("2000 amperes", 1, relay.covers(0, 10000));
            relay.set(ZoneRelay.MINIMUM, 2001);
            due.is("2000 amperes are less than 2001", 0, relay.covers(0, 10000));
            relay.set(ZoneRelay.MINIMUM, 20000);
            due.is("20000 amperes", 1, relay.covers(0, 1000));
            due.is("19980 amperes", 0, relay.covers(0, 1001));
        });
        edges.test("21: both numbers of the current count together", () -> {
            ZoneRelay relay = plainLine();
            Shapes.box(relay, 0, -20000, -20000, 20000, 20000);
            relay.network(2, 0, 4000);
            // R = 3000 and X = 4000: 20000 volts make (2400, -3200), which is 4000 together
            relay.set(ZoneRelay.MINIMUM, 4000);
            due.is("just 4000", 1, relay.covers(1000, 3000));
            relay.set(ZoneRelay.MINIMUM, 4001);
            due.is("less than 4001", 0, relay.covers(1000, 3000));
        });
        edges.test("21: 0 of no current at all, with the least MINIMUM", () -> {
            ZoneRelay relay = new ZoneRelay();
            Shapes.box(relay, 0, -20000, -20000, 20000, 20000);
            relay.set(ZoneRelay.MINIMUM, 1);
            relay.network(0, 1, 0);
            relay.network(1, 0, 0);
            due.is("1000 / 1000: one ampere", 1, relay.covers(0, 1000));
            due.is("1000 / 1001: none", 0, relay.covers(0, 1001));
        });
    }

    // ---- reach

    private static void reach() {
        edges.range("22: zone is 0 to 2, else NO_SUCH", ZoneRelay.NO_SUCH, 0, 2, (relay, n) -> relay.reach(n, 0));
        edges.range("22: resistance is 0 to 20000, else BAD_VALUE", ZoneRelay.BAD_VALUE, 0, 20000, (relay, n) -> relay.reach(0, n));
        edges.refused("22: NO_SUCH is checked before the resistance", ZoneRelay.NO_SUCH, relay -> relay.reach(3, 20001));
        edges.refused("22: INNER is no zone", ZoneRelay.NO_SUCH, relay -> relay.reach(ZoneRelay.INNER, 0));
        edges.refused("22: NO_SUCH comes before NONE", ZoneRelay.NO_SUCH, relay -> relay.clear(0), relay -> relay.reach(-1, 0));
        edges.refused("22: BAD_VALUE comes before NONE", ZoneRelay.BAD_VALUE, relay -> relay.clear(0), relay -> relay.reach(0, -1));
        edges.refused("22: NONE of a zone without corners", NONE, relay -> relay.clear(0), relay -> relay.reach(0, 0));
    }

    private static void reachesTo(int want, int right) {
        ZoneRelay relay = plainLine();
        Shapes.box(relay, 1, -20000, -1, right, 1);
        due.is("up to " + right, want, relay.reach(1, 1000));
    }

    private static void reachEdges() {
        edges.test("22: from NONE by the place 0 alone to the whole line", () -> {
            // With a resistance of 1000 the place p is at (p + 1000, 0), or a little beyond it.
            reachesTo(NONE, 999);
            reachesTo(0, 1000);
            reachesTo(1000, 2000);
            reachesTo(1000, 20000);
        });
        edges.test("22: the whole line but its end", () -> {
            ZoneRelay relay = plainLine();
            Shapes.box(relay, 1, -20000, -1, 1999, 1);
            due.is("the end is not covered", 0, relay.covers(1000, 1000));
            int reach = relay.reach(1, 1000);
            due.holds("a place before it: " + reach, reach >= 990 && reach < 1000);
            due.is("is covered", 2, relay.covers(reach, 1000));
            due.is("the next one is not", 0, relay.covers(reach + 1, 1000));
        });
        edges.test("22: NONE if the place 0 is not covered, though all others are", () -> {
            ZoneRelay relay = plainLine();
            Shapes.box(relay, 2, 1001, -1, 20000, 1);
            due.is("the place 0", 0, relay.covers(0, 1000));
            due.is("the place 1", 4, relay.covers(1, 1000));
            due.is("the place 1000", 4, relay.covers(1000, 1000));
            due.is("reach", NONE, relay.reach(2, 1000));
        });
        edges.test("22: NONE if the place 0 has no phasors, though all others are covered", () -> {
            for (int zone = 0; zone < 3; zone++) {
                ZoneRelay relay = plainLine();
                Shapes.box(relay, zone, -20000, -1, 20000, 1);
                due.is("the place 0", ZoneRelay.NOT_POSSIBLE, relay.covers(0, 0));
                due.is("the place 1", 1 << zone, relay.covers(1, 0));
                due.is("reach of the zone " + zone, NONE, relay.reach(zone, 0));
                due.is("with a resistance of 1", 1000, relay.reach(zone, 1));
            }
        });
        edges.test("22: a gap ends it, though places beyond the gap are covered", () -> {
            ZoneRelay relay = plainLine();
            relay.network(2, 0, 500);
            Shapes.box(relay, 0, 0, -10, 1000, 3000);
            // The places 0 and 1 are at (1000, 0), and 1000 at (1000, 500): these currents are whole numbers.
            // At the place 2 there are 19999 amperes, not quite 20000, and R is a little more than 1000.
            due.is("the place 0", 1, relay.covers(0, 1000));
            due.is("the place 1", 1, relay.covers(1, 1000));
            due.is("the place 2", 0, relay.covers(2, 1000));
            due.is("the place 1000", 1, relay.covers(1000, 1000));
            due.is("reach", 1, relay.reach(0, 1000));
        });
        edges.test("22: the greatest resistance", () -> {
            ZoneRelay relay = plainLine();
            Shapes.box(relay, 0, -20000, -1, 20000, 1);
            due.is("20000 at the place 0 alone", 0, relay.reach(0, 20000));
            due.is("19000 on the whole line", 1000, relay.reach(0, 19000));
            due.is("19001 on all of it but its end", 999, relay.reach(0, 19001));
        });
        edges.test("22: the minimum current ends it, just reached and just not reached", () -> {
            ZoneRelay relay = plainLine();
            Shapes.box(relay, 0, -20000, -20000, 20000, 20000);
            // 20000000 / 1500 = 13333
            relay.set(ZoneRelay.MINIMUM, 13333);
            due.is("13333", 500, relay.reach(0, 1000));
            relay.set(ZoneRelay.MINIMUM, 13334);
            due.is("13334", 499, relay.reach(0, 1000));
        });
    }

    // ---- test

    private static void test() {
        edges.range("23: place is 0 to 1000, else BAD_VALUE", ZoneRelay.BAD_VALUE, 0, 1000, (relay, n) -> relay.test(n, 5, 9, 0));
        edges.range("23: resistance is 0 to 20000, else BAD_VALUE", ZoneRelay.BAD_VALUE, 0, 20000, (relay, n) -> relay.test(5, n, 9, 0));
        edges.range("23: samples is 1 to 2400, else BAD_VALUE", ZoneRelay.BAD_VALUE, 1, 2400, (relay, n) -> relay.test(5, 5, n, 0));
        edges.range("23: what is 0 or 1, else BAD_VALUE", ZoneRelay.BAD_VALUE, 0, 1, (relay, n) -> relay.test(5, 5, 9, n));
    }

    private static void testErrors() {
        edges.refused("23: NOT_POSSIBLE if there are no phasors of the fault", ZoneRelay.NOT_POSSIBLE,
            TrialEdgesTest::withoutSource, relay -> relay.test(0, 0, 9, 0));
        edges.refused("23: NOT_POSSIBLE if there are no phasors without a fault", ZoneRelay.NOT_POSSIBLE, relay -> {
            relay.network(1, 0, 0);
            relay.network(2, 0, 0);
            relay.network(3, 0, 0);
        }, relay -> relay.test(0, 5, 9, 0));
        edges.refused("23: BAD_VALUE for samples is checked before NOT_POSSIBLE", ZoneRelay.BAD_VALUE,
            TrialEdgesTest::withoutSource, relay -> relay.test(0, 0, 0, 0));
        edges.refused("23: BAD_VALUE for what is checked before NOT_POSSIBLE", ZoneRelay.BAD_VALUE,
            TrialEdgesTest::withoutSource, relay -> relay.test(0, 0, 9, 2));
        edges.refused("23: BAD_VALUE comes before NONE", ZoneRelay.BAD_VALUE, relay -> relay.clear(0), relay -> relay.test(0, 0, 9, -1));
        edges.test("23: phasors of both if each D is 1", () -> {
            ZoneRelay relay = new ZoneRelay();
            relay.network(1, 0, 0);
            relay.network(2, 0, 0);
            relay.network(3, 0, 1);
            due.is("no phasors of the fault", ZoneRelay.NOT_POSSIBLE, relay.test(0, 0, 1, 0));
            due.is("phasors of both", NONE, relay.test(0, 1, 1, 0));
            relay.network(3, 0, 0);
            due.is("none without a fault", ZoneRelay.NOT_POSSIBLE, relay.test(0, 1, 1, 0));
            due.is("a wrong place before that", ZoneRelay.BAD_VALUE, relay.test(-1, 1, 1, 0));
        });
        edges.refused("23: NONE if it is not tripped after so many samples, by its number", NONE, TrialEdgesTest::withoutZones,
            relay -> relay.test(0, 5, 2400, 0));
        edges.refused("23: NONE if it is not tripped after so many samples, by its zone", NONE, TrialEdgesTest::withoutZones,
            relay -> relay.test(0, 5, 2400, 1));
    }

    private static void withoutZones(ZoneRelay relay) {
        for (int zone = 0; zone < 3; zone++) {
            relay.clear(zone);
        }
    }

    /** All samples are in the zone 2, those of the load too, so that its timer counts all samples of a test. */
    private static ZoneRelay alwaysPickedUp() {
        ZoneRelay relay = line();
        relay.network(3, 2000, 1000);
        Shapes.box(relay, 2, -20000, -20000, 20000, 20000);
        relay.zone(2, 2400, BOTH);
        relay.set(ZoneRelay.MINIMUM, 1);
        relay.healthy();
        relay.pass(24);
        return relay;
    }

    private static void testIs(ZoneRelay relay, int delay, int samples, int number, int zone) {
        relay.zone(2, delay, BOTH);
        due.is("delay " + delay + " in " + samples + " samples, number", number, relay.test(500, 0, samples, 0));
        due.is("delay " + delay + " in " + samples + " samples, zone", zone, relay.test(500, 0, samples, 1));
    }

    private static void testBeforeTheFault() {
        edges.test("23: 48 samples without a fault, and 0 if it is tripped in the last of them already", () -> {
            ZoneRelay relay = alwaysPickedUp();
            testIs(relay, 1, 9, 0, 2);
            testIs(relay, 47, 9, 0, 2);
            testIs(relay, 48, 9, 0, 2);
            testIs(relay, 49, 9, 1, 2);
            testIs(relay, 50, 9, 2, 2);
        });
        edges.test("23: 0 before the fault also with one sample of it, and the fault's zone does not count then", () -> {
            ZoneRelay relay = alwaysPickedUp();
            Shapes.box(relay, 0, -500, -100, 500, 2500);
            relay.zone(0, 1, BOTH);
            testIs(relay, 48, 1, 0, 2);
            testIs(relay, 48, 2400, 0, 2);
        });
        edges.test("23: reset() is called first, on a tripped relay with timers that are far on", () -> {
            ZoneRelay relay = alwaysPickedUp();
            relay.zone(2, 3, BOTH);
            relay.pass(30);
            due.is("tripped", 2, relay.tripped());
            testIs(relay, 49, 9, 1, 2);
            due.is("and still tripped", 2, relay.tripped());
            due.is("its timer", 54, relay.state(2, 1));
        });
    }

    private static void testInTime() {
        edges.test("23: after so many samples, from the least to the greatest number, and NONE after one less", () -> {
            ZoneRelay relay = alwaysPickedUp();
            testIs(relay, 49, 1, 1, 2);
            testIs(relay, 50, 1, NONE, NONE);
            testIs(relay, 50, 2, 2, 2);
            testIs(relay, 2400, 2352, 2352, 2);
            testIs(relay, 2400, 2351, NONE, NONE);
            testIs(relay, 2400, 2400, 2352, 2);
        });
        edges.test("23: tripped with the sample 2400 of the fault", () -> {
            ZoneRelay relay = alwaysPickedUp();
            // Only the healthy point itself is outside: the fault's first sample is in the zone.
            relay.pass(24);
            int x = (int) relay.measure(9);
            relay.clear(2);
            Shapes.box(relay, 0, -20000, -20000, 20000, x - 1);
            testFrom(relay, 0, 2400);
        });
        edges.test("23: the zone by which it is tripped, from 0 to 2", () -> {
            for (int zone = 0; zone < 3; zone++) {
                ZoneRelay relay = line();
                Shapes.box(relay, zone, -500, -100, 500, 2500);
                relay.zone(zone, 3, BOTH);
                due.is("what 1", zone, relay.test(200, 0, 60, 1));
                due.holds("what 0", relay.test(200, 0, 60, 0) > 3);
            }
        });
        edges.test("23: the phasors that there were, and a ramp, have no part in it", () -> {
            ZoneRelay relay = alwaysPickedUp();
            relay.ramp(1, 0, 0, 0, 0);
            testIs(relay, 48, 9, 0, 2);
            testIs(relay, 49, 9, 1, 2);
            due.is("the ramp stays", 1, relay.phasor(4));
            relay.apply(0, 0, 0, 0);
            relay.pass(24);
            due.is("no impedance", 0, relay.measure(7));
            testIs(relay, 40, 9, 0, 2);
            due.is("no impedance still", 0, relay.measure(7));
        });
    }

    /** The zone is picked up with the fault's first sample and with each one after it. */
    private static void testFrom(ZoneRelay relay, int zone, int delay) {
        relay.zone(zone, delay - 1, BOTH);
        int before = relay.test(500, 0, 2400, 0);
        relay.zone(zone, delay, BOTH);
        due.is("one before the greatest number", delay - 1, before);
        due.is("with the last sample", delay, relay.test(500, 0, delay, 0));
        due.is("with the last sample, its zone", zone, relay.test(500, 0, delay, 1));
        due.is("one sample less", NONE, relay.test(500, 0, delay - 1, 0));
        due.is("one sample less, its zone", NONE, relay.test(500, 0, delay - 1, 1));
    }

    // ---- forecast

    private static void forecast() {
        edges.range("24: samples is 1 to 5000, else BAD_VALUE", ZoneRelay.BAD_VALUE, 1, 5000, (relay, n) -> relay.forecast(n));
        edges.refused("24: BAD_VALUE is checked, though it is tripped already", ZoneRelay.BAD_VALUE, relay -> relay.forecast(0));
        edges.refused("24: BAD_VALUE comes before NONE", ZoneRelay.BAD_VALUE, relay -> relay.reset(), relay -> relay.forecast(5001));
        edges.refused("24: NONE if it is not tripped after so many samples", NONE, relay -> {
            withoutZones(relay);
            relay.reset();
        }, relay -> relay.forecast(5000));
        edges.refused("24: 0 if it is tripped already", 0, relay -> relay.forecast(1));
        edges.test("24: of a relay before its first sample", () -> {
            due.is("forecast(1)", NONE, new ZoneRelay().forecast(1));
            due.is("forecast(5000)", NONE, new ZoneRelay().forecast(5000));
        });
    }

    private static void forecastInTime() {
        edges.test("24: after so many samples, and NONE after one less", () -> {
            ZoneRelay relay = alwaysPickedUp();
            relay.clear(2);
            Shapes.box(relay, 0, -20000, -20000, 20000, 20000);
            for (int delay : new int[] {1, 2, 3, 2400}) {
                relay.zone(0, delay, BOTH);
                due.is("delay " + delay + " in just as many", delay, relay.forecast(delay));
                due.is("delay " + delay + " in one more", delay, relay.forecast(delay + 1));
                if (delay > 1) {
                    due.is("delay " + delay + " in one less", NONE, relay.forecast(delay - 1));
                }
            }
        });
        edges.test("24: with the sample 5000, and not after 5001", () -> {
            ZoneRelay relay = new ZoneRelay();
            Shapes.box(relay, 1, -20000, -20000, 20000, 20000);
            relay.set(ZoneRelay.MEMORY_HOLD, 1000);
            Wave.stand(relay, 19000, 0, 1000, 0);
            // A long ramp and then the memory keep the zone back; what is left to 5000 samples is its delay.
            relay.ramp(2400, -500, 0, 1000, 0);
            relay.zone(1, 1, ZoneRelay.REVERSE);
            int first = relay.forecast(5000);
            due.holds("it is late: " + first, first > 3000);
            slowDown(relay, 5000 - first);
        });
        edges.test("24: it is tripped after just so many samples when they pass", () -> {
            ZoneRelay relay = alwaysPickedUp();
            relay.zone(2, 77, BOTH);
            int samples = relay.forecast(5000);
            relay.pass(samples - 1);
            due.is("one before", NONE, relay.tripped());
            due.is("forecast(1) then", 1, relay.forecast(1));
            relay.pass(1);
            due.is("then", 2, relay.tripped());
            due.is("forecast(1) of a tripped one", 0, relay.forecast(1));
        });
    }

    /** Lets the zone 1 trip so much later that it is just the sample 5000. */
    private static void slowDown(ZoneRelay relay, int later) {
        due.holds("a delay can do it: " + later, later >= 0 && later < 2400);
        relay.zone(1, 1 + later, ZoneRelay.REVERSE);
        due.is("the sample 5000", 5000, relay.forecast(5000));
        due.is("one less", NONE, relay.forecast(4999));
        relay.zone(1, 2 + later, ZoneRelay.REVERSE);
        due.is("not the sample 5001", NONE, relay.forecast(5000));
        relay.pass(5000);
        due.is("nor when they pass", NONE, relay.tripped());
        relay.pass(1);
        due.is("but then", 1, relay.tripped());
    }

    // ---- what they change

    private static void changesNothing(String name, Edges.Call call) {
        edges.test(name, () -> {
            ZoneRelay asked = Busy.relay();
            ZoneRelay left = Busy.relay();
            call.on(asked);
            due.same("the story", Busy.story(left), Busy.story(asked));
        });
    }

    private static void nothingChanges() {
        changesNothing("21: covers changes nothing", relay -> relay.covers(200, 10));
        changesNothing("22: reach changes nothing", relay -> relay.reach(2, 10));
        changesNothing("23: test changes nothing", relay -> relay.test(200, 10, 2400, 0) + relay.test(900, 10, 9, 1));
        changesNothing("24: forecast changes nothing, of a tripped relay", relay -> relay.forecast(5000));
        edges.test("24: forecast changes nothing, of a relay that is not tripped", () -> {
            ZoneRelay asked = Busy.relay();
            ZoneRelay left = Busy.relay();
            asked.reset();
            left.reset();
            due.holds("it trips", asked.forecast(5000) > 0);
            due.same("the story", Busy.story(left), Busy.story(asked));
        });
        edges.test("CONVENTIONS: NONE of a test or a forecast is no error, and comes after all errors", () -> {
            ZoneRelay relay = line();
            due.is("a test", NONE, relay.test(0, 5, 1, 1));
            due.is("a test with an error", ZoneRelay.BAD_VALUE, relay.test(0, 5, 1, 2));
            due.is("a forecast", NONE, relay.forecast(1));
            due.is("a forecast with an error", ZoneRelay.BAD_VALUE, relay.forecast(0));
        });
    }
}
