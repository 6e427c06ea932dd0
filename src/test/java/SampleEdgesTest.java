/** Boundary cases of the steps 6 and 7 of A SAMPLE, of EVENTS, and of the promises 15 to 20. */
public final class SampleEdgesTest {
    private static final Edges edges = new Edges();
    private static final Due due = edges.due;
    private static final long NO_NUMBER = ZoneRelay.GONE + ZoneRelay.NONE;
    private static final long BAD_NUMBER = ZoneRelay.GONE + ZoneRelay.BAD_VALUE;
    private static final int BOTH = ZoneRelay.BOTH;

    public static void main(String[] args) {
        timers();
        trips();
        time();
        kindsOfEvents();
        orderOfEvents();
        logOfSixty();
        pass();
        passTooLate();
        measure();
        measureOfTheLatestSample();
        state();
        tripped();
        reset();
        event();
        edges.finish("A SAMPLE", "EVENTS", "15", "16", "17", "18", "19", "20");
    }

    /** The point is (1000, 0), and no zone is around it. */
    private static ZoneRelay standing() {
        ZoneRelay relay = new ZoneRelay();
        Wave.stand(relay, 1000, 0, 1000, 0);
        return relay;
    }

    private static void around(ZoneRelay relay, int polygon) {
        Shapes.box(relay, polygon, -2000, -2000, 2000, 2000);
    }

    private static ZoneRelay standingIn(int zone, int delay) {
        ZoneRelay relay = standing();
        around(relay, zone);
        relay.zone(zone, delay, BOTH);
        return relay;
    }

    // ---- A SAMPLE, steps 6 and 7

    private static void tripsAt(int zone, int delay) {
        ZoneRelay relay = standingIn(zone, delay);
        String what = "zone " + zone + " with the delay " + delay;
        if (delay > 1) {
            relay.pass(delay - 1);
            due.is(what + ": timer before", delay - 1, relay.state(zone, 1));
            due.is(what + ": before", ZoneRelay.NONE, relay.tripped());
        }
        relay.pass(1);
        due.is(what + ": timer", delay, relay.state(zone, 1));
        due.is(what, zone, relay.tripped());
        due.is(what + ": its event", 30 + zone, relay.event(1, 1));
        due.is(what + ": the event's time", 24 + delay - 1, relay.event(1, 0));
    }

    private static void timers() {
        edges.test("A SAMPLE: 6. trips if a timer is at least the delay of its zone, from the least delay to the greatest", () -> {
            for (int zone = 0; zone < 3; zone++) {
                tripsAt(zone, 1);
                tripsAt(zone, 2);
                tripsAt(zone, 4);
                tripsAt(zone, 2399);
                tripsAt(zone, 2400);
            }
        });
        edges.test("A SAMPLE: 6. with the first delays of the zones, 4, 480 and 1200", () -> {
            int[] delays = {4, 480, 1200};
            for (int zone = 0; zone < 3; zone++) {
                ZoneRelay relay = standing();
                around(relay, zone);
                relay.pass(delays[zone] - 1);
                due.is("zone " + zone + " one before", ZoneRelay.NONE, relay.tripped());
                relay.pass(1);
                due.is("zone " + zone, zone, relay.tripped());
            }
        });
        edges.test("A SAMPLE: 6. the timer of a zone that is not picked up becomes 0", () -> {
            ZoneRelay relay = standingIn(1, 3);
            relay.pass(2);
            due.is("its timer", 2, relay.state(1, 1));
            relay.clear(1);
            relay.pass(1);
            due.is("its timer then", 0, relay.state(1, 1));
            around(relay, 1);
            relay.pass(2);
            due.is("its timer again", 2, relay.state(1, 1));
            due.is("not tripped", ZoneRelay.NONE, relay.tripped());
            relay.pass(1);
            due.is("tripped", 1, relay.tripped());
        });
        edges.test("A SAMPLE: 6. timers go on beyond the delays, though the relay is tripped", () -> {
            ZoneRelay relay = standingIn(0, 2);
            around(relay, 2);
            relay.pass(5000);
            due.is("the zone that trips", 5000, relay.state(0, 1));
            relay.zone(2, 2400, BOTH);
            relay.pass(1);
            due.is("another zone", 5001, relay.state(2, 1));
        });
    }

    private static void trips() {
        edges.test("A SAMPLE: 6. trips by the lowest of the zones whose timers are at least their delays", () -> {
            for (int zones = 1; zones <= 7; zones++) {
                ZoneRelay relay = standing();
                for (int zone = 0; zone < 3; zone++) {
                    around(relay, zone);
                    relay.zone(zone, (zones >> zone & 1) == 1 ? 5 : 6, BOTH);
                }
                relay.pass(4);
                due.is("before, the zones " + zones, ZoneRelay.NONE, relay.tripped());
                relay.pass(1);
                due.is("the lowest of the zones " + zones, Integer.numberOfTrailingZeros(zones), relay.tripped());
                due.is("one event", 4, relay.count(1));
            }
        });
        edges.test("A SAMPLE: 6. stays tripped by the same zone until reset() is called", () -> {
            ZoneRelay relay = standingIn(2, 1);
            relay.pass(1);
            around(relay, 0);
            relay.zone(0, 1, BOTH);
            relay.pass(1);
            due.is("though a lower zone is due", 2, relay.tripped());
            relay.clear(0);
            relay.clear(2);
            relay.pass(5000);
            due.is("though no zone is picked up", 2, relay.tripped());
            due.same("the events", "12 32 10 20 22", Shapes.kinds(relay));
            relay.reset();
            due.is("then", ZoneRelay.NONE, relay.tripped());
        });
        edges.test("A SAMPLE: 6. a timer beyond a delay that became shorter trips with the next sample", () -> {
            ZoneRelay relay = standingIn(1, 2400);
            relay.pass(50);
            relay.zone(1, 1, BOTH);
            due.is("not at once", ZoneRelay.NONE, relay.tripped());
            relay.pass(1);
            due.is("with a sample", 1, relay.tripped());
        });
    }

    private static void time() {
        edges.test("A SAMPLE: 7. the time increases by 1, from 0", () -> {
            ZoneRelay relay = new ZoneRelay();
            for (int time = 0; time < 30; time++) {
                due.is("the time", time, relay.count(0));
                due.is("pass(1)", time + 1, relay.pass(1));
            }
        });
        edges.test("A SAMPLE: 7. an event has the time before it increases", () -> {
            ZoneRelay relay = new ZoneRelay();
            relay.set(ZoneRelay.MINIMUM, 1);
            relay.zone(0, 1, BOTH);
            around(relay, 0);
            relay.apply(4096, 0, 4096, 0);
            relay.pass(1);
            due.is("picked up in the first sample", 10, relay.event(0, 1));
            due.is("at the time 0", 0, relay.event(0, 0));
            due.is("tripped in the first sample", 30, relay.event(1, 1));
            due.is("at the time 0", 0, relay.event(1, 0));
        });
    }

    // ---- EVENTS

    private static void kindsOfEvents() {
        edges.test("EVENTS: 10, 20 and 30 + zone, of the first zone and the last", () -> {
            for (int zone = 0; zone < 3; zone++) {
                ZoneRelay relay = standingIn(zone, 2);
                relay.pass(2);
                relay.clear(zone);
                relay.pass(1);
                due.same("zone " + zone, (10 + zone) + " " + (30 + zone) + " " + (20 + zone), Shapes.kinds(relay));
                due.is("picked up", 24, relay.event(0, 0));
                due.is("tripped", 25, relay.event(1, 0));
                due.is("not any more", 26, relay.event(2, 0));
            }
        });
        edges.test("EVENTS: only of a zone that was not picked up in the sample before, or is not any more", () -> {
            ZoneRelay relay = standingIn(1, 2400);
            relay.pass(1);
            due.same("the first sample", "11", Shapes.kinds(relay));
            relay.pass(1);
            due.same("the second", "11", Shapes.kinds(relay));
            relay.clear(1);
            relay.pass(1);
            due.same("the first without", "11 21", Shapes.kinds(relay));
            relay.pass(1);
            due.same("the second without", "11 21", Shapes.kinds(relay));
        });
        edges.test("EVENTS: reset() makes no event, and a zone that stays picked up none either", () -> {
            ZoneRelay relay = standingIn(1, 2);
            relay.pass(2);
            relay.reset();
            relay.pass(1);
            due.same("before it trips again", "11 31", Shapes.kinds(relay));
            relay.pass(1);
            due.same("when it trips again", "11 31 31", Shapes.kinds(relay));
        });
        edges.test("EVENTS: a swing begins (40) and ends (41)", () -> {
            ZoneRelay relay = standing();
            relay.set(ZoneRelay.SWING_TIME, 1);
            around(relay, ZoneRelay.OUTER);
            relay.pass(1);
            around(relay, ZoneRelay.INNER);
            relay.pass(1);
            relay.clear(ZoneRelay.OUTER);
            relay.pass(1);
            due.same("the events", "40 41", Shapes.kinds(relay));
            due.is("it begins", 25, relay.event(0, 0));
            due.is("it ends", 26, relay.event(1, 0));
        });
    }

    private static void orderOfEvents() {
        edges.test("EVENTS: in a sample the swing that begins first, then the zones in ascending order, then tripping", () -> {
            ZoneRelay relay = beforeASwing();
            around(relay, ZoneRelay.INNER);
            around(relay, 0);
            relay.clear(1);
            around(relay, 2);
            relay.pass(1);
            due.same("the events", "11 40 10 21 12 30", Shapes.kinds(relay));
            for (int event = 1; event < 6; event++) {
                due.is("all at one time", 25, relay.event(event, 0));
            }
        });
        edges.test("EVENTS: in a sample the swing that ends first, then the zones in ascending order, then tripping", () -> {
            ZoneRelay relay = beforeASwing();
            around(relay, ZoneRelay.INNER);
            relay.pass(1);
            relay.clear(ZoneRelay.OUTER);
            relay.clear(1);
            around(relay, 0);
            around(relay, 2);
            relay.pass(1);
            due.same("the events", "11 40 41 10 21 12 30", Shapes.kinds(relay));
        });
    }

    /** The zone 1 is picked up, and the next sample in INNER begins a swing. */
    private static ZoneRelay beforeASwing() {
        ZoneRelay relay = standingIn(1, 2400);
        relay.set(ZoneRelay.SWING_TIME, 1);
        relay.zone(0, 1, BOTH);
        relay.zone(2, 1, BOTH);
        around(relay, ZoneRelay.OUTER);
        relay.pass(1);
        return relay;
    }

    /** A relay in whose log there are so many events, the event n of the zone n % 3, three in each sample from 24 on. */
    private static ZoneRelay withEvents(int events) {
        ZoneRelay relay = standing();
        for (int zone = 0; zone < 3; zone++) {
            relay.zone(zone, 2400, BOTH);
            around(relay, zone);
        }
        for (int sample = 0; sample < events / 3; sample++) {
            relay.set(ZoneRelay.MINIMUM, sample % 2 == 0 ? 100 : 20000);
            relay.pass(1);
        }
        int rest = events % 3;
        boolean picksUp = events / 3 % 2 == 0;
        for (int zone = 0; zone < 3; zone++) {
            if (picksUp == zone >= rest) {
                relay.clear(zone);
            }
        }
        if (rest > 0) {
            relay.set(ZoneRelay.MINIMUM, 100);
            relay.pass(1);
        }
        return relay;
    }

    private static void eventIs(ZoneRelay relay, int event) {
        due.is("kind of " + event, (event / 3 % 2 == 0 ? 10 : 20) + event % 3, relay.event(event, 1));
        due.is("time of " + event, 24 + event / 3, relay.event(event, 0));
    }

    private static void noEvent(ZoneRelay relay, int event) {
        due.is("kind of " + event, ZoneRelay.NONE, relay.event(event, 1));
        due.is("time of " + event, ZoneRelay.NONE, relay.event(event, 0));
    }

    private static void logKeeps(int events) {
        ZoneRelay relay = withEvents(events);
        due.is("number of events", events, relay.count(1));
        noEvent(relay, -1);
        noEvent(relay, events);
        for (int event = Math.max(0, events - 62); event < events; event++) {
            if (event < events - 60) {
                noEvent(relay, event);
            } else {
                eventIs(relay, event);
            }
        }
        noEvent(relay, events > 60 ? 0 : events + 1);
    }

    private static void logOfSixty() {
        edges.test("EVENTS: the log keeps the latest 60: 59, 60 and 61 events", () -> {
            logKeeps(59);
            logKeeps(60);
            logKeeps(61);
        });
        edges.test("EVENTS: the log keeps the latest 60 when they have come around: 119 to 121 events", () -> {
            logKeeps(119);
            logKeeps(120);
            logKeeps(121);
        });
        edges.test("EVENTS: numbered from 0", () -> {
            logKeeps(0);
            logKeeps(1);
            logKeeps(2);
        });
        edges.test("EVENTS: a full log takes all events of a sample, over its end", () -> {
            logKeeps(62);
            logKeeps(63);
            logKeeps(64);
        });
    }

    // ---- promises

    private static void pass() {
        edges.range("15: samples is 1 to 5000, else BAD_VALUE", ZoneRelay.BAD_VALUE, 1, 5000, (relay, n) -> relay.pass(n));
        edges.refused("15: 0 samples are none", ZoneRelay.BAD_VALUE, relay -> relay.pass(0));
        edges.test("15: the least and the greatest number of samples pass", () -> {
            ZoneRelay relay = new ZoneRelay();
            due.is("pass(1)", 1, relay.pass(1));
            due.is("pass(5000)", 5001, relay.pass(5000));
            due.is("the time", 5001, relay.count(0));
            due.is("each of them was a sample", 5001, relay.measure(6));
        });
    }

    /** A relay at the time 99999999, which its slot 0 has, too: that is beyond the 512 calls of an object, and holds all the same. */
    private static ZoneRelay late() {
        ZoneRelay relay = new ZoneRelay();
        for (int i = 0; i < 19999; i++) {
            relay.pass(5000);
        }
        due.is("up to 99999999", 99999999, relay.pass(4999));
        relay.save(0);
        return relay;
    }

    private static void passTooLate() {
        ZoneRelay late = late();
        edges.test("15: NOT_POSSIBLE if the time would be greater than 100000000, and BAD_VALUE before that", () -> {
            String before = Busy.now(late);
            due.is("one too many", ZoneRelay.NOT_POSSIBLE, late.pass(2));
            due.is("many too many", ZoneRelay.NOT_POSSIBLE, late.pass(5000));
            due.is("a wrong number", ZoneRelay.BAD_VALUE, late.pass(5001));
            due.is("no number", ZoneRelay.BAD_VALUE, late.pass(0));
            due.same("nothing changes", before, Busy.now(late));
            due.is("just to 100000000", 100000000, late.pass(1));
            due.is("one more", ZoneRelay.NOT_POSSIBLE, late.pass(1));
            due.is("a wrong number", ZoneRelay.BAD_VALUE, late.pass(-1));
            due.is("the time", 100000000, late.count(0));
        });
        // The time 15 is at the same place of its cycle as 99999999.
        ZoneRelay early = new ZoneRelay();
        early.pass(15);
        early.save(0);
        edges.test("23: in a copy the time is not limited", () -> {
            for (ZoneRelay relay : new ZoneRelay[] {early, late}) {
                relay.restore(0);
                relay.zone(0, 60, BOTH);
                Shapes.box(relay, 0, -2000, -2000, 2000, 4000);
            }
            due.holds("it trips", early.test(500, 0, 2400, 0) > 0);
            due.is("number", early.test(500, 0, 2400, 0), late.test(500, 0, 2400, 0));
            due.is("zone", 0, late.test(500, 0, 2400, 1));
            due.is("the time stays", 99999999, late.count(0));
        });
        edges.test("24: in a copy the time is not limited", () -> {
            for (ZoneRelay relay : new ZoneRelay[] {early, late}) {
                relay.restore(0);
                relay.zone(0, 60, BOTH);
                Shapes.box(relay, 0, -2000, -2000, 2000, 4000);
                relay.fault(500, 0);
            }
            due.holds("it trips", early.forecast(5000) > 0);
            due.is("number", early.forecast(5000), late.forecast(5000));
            due.is("the time stays", 99999999, late.count(0));
        });
    }

    private static void measure() {
        edges.range("16: what is 0 to 12, else GONE + BAD_VALUE", BAD_NUMBER, 0, 12, (relay, n) -> relay.measure(n));
        edges.refused("16: BAD_VALUE comes before NONE", BAD_NUMBER, relay -> {
            relay.set(ZoneRelay.MINIMUM, 20000);
            relay.pass(1);
        }, relay -> relay.measure(13));
        edges.test("16: before the first sample all numbers are 0, and there is no impedance", () -> {
            ZoneRelay relay = new ZoneRelay();
            relay.apply(20000, 20000, 20000, 20000);
            relay.set(ZoneRelay.LOAD_FROM, 0);
            for (int what = 0; what <= 12; what++) {
                due.is("measure(" + what + ")", what == 8 || what == 9 ? NO_NUMBER : 0, relay.measure(what));
            }
        });
        edges.test("16: NONE for R and X and 0 for the load area if there is no impedance, also if there was one", () -> {
            ZoneRelay relay = standing();
            relay.set(ZoneRelay.LOAD_FROM, 1000);
            relay.pass(1);
            due.is("R", 1000, relay.measure(8));
            due.is("X", 0, relay.measure(9));
            due.is("load", 1, relay.measure(12));
            relay.set(ZoneRelay.MINIMUM, 1001);
            relay.pass(1);
            due.is("whether there is one", 0, relay.measure(7));
            due.is("R then", NO_NUMBER, relay.measure(8));
            due.is("X then", NO_NUMBER, relay.measure(9));
            due.is("load then", 0, relay.measure(12));
        });
    }

    private static void measureOfTheLatestSample() {
        edges.test("16: as it was in the latest sample, whatever was set since", () -> {
            ZoneRelay relay = standing();
            relay.set(ZoneRelay.LOAD_FROM, 1000);
            relay.set(ZoneRelay.SWING_TIME, 1);
            around(relay, ZoneRelay.OUTER);
            relay.pass(1);
            around(relay, ZoneRelay.INNER);
            relay.pass(1);
            long[] want = {1000, 0, 1000, 0, 1000, 0, 0, 1, 1000, 0, 1, 1, 1};
            numbers(relay, "in the sample", want);
            for (int setting = 0; setting < 8; setting++) {
                relay.set(setting, 7);
            }
            relay.set(ZoneRelay.MINIMUM, 20000);
            relay.set(ZoneRelay.LOAD_FROM, 20000);
            relay.clear(ZoneRelay.OUTER);
            relay.clear(ZoneRelay.INNER);
            relay.network(2, 0, 0);
            relay.apply(1, 2, 3, 4);
            relay.ramp(3, 1, 2, 3, 4);
            relay.reset();
            numbers(relay, "after all was set", want);
            relay.test(0, 100, 50, 0);
            relay.forecast(50);
            numbers(relay, "after tests", want);
        });
    }

    private static void numbers(ZoneRelay relay, String what, long[] want) {
        for (int number = 0; number <= 12; number++) {
            due.is(what + ": measure(" + number + ")", want[number], relay.measure(number));
        }
    }

    private static void state() {
        edges.range("17: zone is 0 to 2, else NO_SUCH", ZoneRelay.NO_SUCH, 0, 2, (relay, n) -> relay.state(n, 1));
        edges.range("17: what is 0 to 4, else BAD_VALUE", ZoneRelay.BAD_VALUE, 0, 4, (relay, n) -> relay.state(1, n));
        edges.refused("17: NO_SUCH is checked before what is too large", ZoneRelay.NO_SUCH, relay -> relay.state(3, 5));
        edges.refused("17: NO_SUCH is checked before what is too small", ZoneRelay.NO_SUCH, relay -> relay.state(-1, -1));
        edges.test("17: before the first sample no zone is picked up, and all of its delay is left", () -> {
            ZoneRelay relay = new ZoneRelay();
            int[] delays = {4, 480, 1200};
            for (int zone = 0; zone < 3; zone++) {
                int[] want = {0, 0, delays[zone], delays[zone], ZoneRelay.FORWARD};
                for (int what = 0; what <= 4; what++) {
                    due.is("state(" + zone + ", " + what + ")", want[what], relay.state(zone, what));
                }
            }
        });
        edges.test("17: the delay minus the timer, 0 if the timer is at least the delay", () -> {
            ZoneRelay relay = standingIn(1, 3);
            int[] left = {3, 2, 1, 0, 0, 0};
            for (int timer = 0; timer < 6; timer++) {
                due.is("the timer", timer, relay.state(1, 1));
                due.is("left at the timer " + timer, left[timer], relay.state(1, 2));
                relay.pass(1);
            }
            relay.zone(1, 1, BOTH);
            due.is("left with a much shorter delay", 0, relay.state(1, 2));
        });
        edges.test("17: whether it was picked up changes with a sample alone", () -> {
            ZoneRelay relay = standing();
            around(relay, 1);
            due.is("a polygon before a sample", 0, relay.state(1, 0));
            relay.pass(1);
            due.is("with a sample", 1, relay.state(1, 0));
            relay.clear(1);
            due.is("no polygon before a sample", 1, relay.state(1, 0));
            relay.pass(1);
            due.is("with a sample", 0, relay.state(1, 0));
        });
    }

    private static void tripped() {
        edges.test("18: NONE if it is not tripped: of a new object, before a delay is over, after reset()", () -> {
            ZoneRelay relay = new ZoneRelay();
            due.is("of a new object", ZoneRelay.NONE, relay.tripped());
            ZoneRelay near = standingIn(0, 2);
            near.pass(1);
            due.is("one before its delay", ZoneRelay.NONE, near.tripped());
            near.pass(1);
            due.is("at its delay", 0, near.tripped());
            near.reset();
            due.is("after reset()", ZoneRelay.NONE, near.tripped());
        });
        edges.test("18: the zone, from 0 to 2", () -> {
            for (int zone = 0; zone < 3; zone++) {
                ZoneRelay relay = standingIn(zone, 1);
                relay.pass(1);
                due.is("tripped()", zone, relay.tripped());
            }
        });
    }

    private static void reset() {
        edges.test("19: NONE if it was not tripped, and yet all timers are 0", () -> {
            due.is("of a new object", ZoneRelay.NONE, new ZoneRelay().reset());
            ZoneRelay relay = standingIn(2, 3);
            relay.pass(2);
            due.is("before it trips", ZoneRelay.NONE, relay.reset());
            due.is("the timer", 0, relay.state(2, 1));
            relay.pass(2);
            due.is("two samples later", ZoneRelay.NONE, relay.tripped());
            relay.pass(1);
            due.is("three samples later", 2, relay.tripped());
        });
        edges.test("19: the zone by which it was tripped, from 0 to 2, and then NONE", () -> {
            for (int zone = 0; zone < 3; zone++) {
                ZoneRelay relay = standingIn(zone, 1);
                relay.pass(1);
                due.is("reset()", zone, relay.reset());
                due.is("reset() again", ZoneRelay.NONE, relay.reset());
            }
        });
        edges.test("19: all timers are 0, each of them, and the zones stay picked up", () -> {
            ZoneRelay relay = standing();
            for (int zone = 0; zone < 3; zone++) {
                around(relay, zone);
                relay.zone(zone, 7, BOTH);
            }
            relay.pass(9);
            relay.reset();
            for (int zone = 0; zone < 3; zone++) {
                due.is("timer", 0, relay.state(zone, 1));
                due.is("left", 7, relay.state(zone, 2));
                due.is("picked up", 1, relay.state(zone, 0));
            }
        });
    }

    private static void event() {
        edges.range("20: what is 0 or 1, else BAD_VALUE", ZoneRelay.BAD_VALUE, 0, 1, (relay, n) -> relay.event(0, n));
        edges.refused("20: BAD_VALUE comes before NONE, with an event that is to come", ZoneRelay.BAD_VALUE, relay -> relay.event(1000, 2));
        edges.refused("20: BAD_VALUE comes before NONE, with an event below 0", ZoneRelay.BAD_VALUE, relay -> relay.event(-1, -1));
        edges.refused("20: NONE of the event -1", ZoneRelay.NONE, relay -> relay.event(-1, 0));
        edges.refused("20: NONE of the least int", ZoneRelay.NONE, relay -> relay.event(Integer.MIN_VALUE, 0));
        edges.refused("20: NONE of the greatest int", ZoneRelay.NONE, relay -> relay.event(Integer.MAX_VALUE, 1));
        edges.test("20: NONE in an empty log", () -> {
            ZoneRelay relay = new ZoneRelay();
            noEvent(relay, 0);
            relay.pass(100);
            noEvent(relay, 0);
            noEvent(relay, 59);
        });
        edges.test("20: the first and the last event, and none beside them", () -> {
            ZoneRelay relay = withEvents(5);
            noEvent(relay, -1);
            eventIs(relay, 0);
            eventIs(relay, 4);
            noEvent(relay, 5);
            noEvent(relay, 60);
        });
        edges.test("20: NONE of an event that the full log does not keep any more", () -> {
            ZoneRelay relay = withEvents(70);
            noEvent(relay, 0);
            noEvent(relay, 9);
            eventIs(relay, 10);
            eventIs(relay, 69);
            noEvent(relay, 70);
            noEvent(relay, 130);
            due.is("and BAD_VALUE before that", ZoneRelay.BAD_VALUE, relay.event(0, 2));
        });
    }
}
