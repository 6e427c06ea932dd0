/** Boundary cases of the promises 30 to 32, and of CONVENTIONS. */
public final class SavingEdgesTest {
    private static final Edges edges = new Edges();
    private static final Due due = edges.due;

    public static void main(String[] args) {
        conventions();
        noneIsNoError();
        count();
        countOfEventsAndPad();
        save();
        restore();
        restoreEverything();
        restoreWrapsAround();
        edges.finish("CONVENTIONS", "30", "31", "32");
    }

    // ---- CONVENTIONS

    private static void conventions() {
        edges.test("CONVENTIONS: the error codes are -1 to -5, and NONE is -6", () -> {
            int[] codes = {ZoneRelay.NO_SUCH, ZoneRelay.BAD_VALUE, ZoneRelay.BAD_TEXT, ZoneRelay.TOO_MANY, ZoneRelay.NOT_POSSIBLE, ZoneRelay.NONE};
            for (int i = 0; i < 6; i++) {
                due.is("code " + i, -1 - i, codes[i]);
            }
        });
        edges.test("CONVENTIONS: methods that return a long return GONE plus the code", () -> {
            ZoneRelay relay = new ZoneRelay();
            due.is("GONE", -1000000000000000000L, ZoneRelay.GONE);
            due.is("an error of phasor", -1000000000000000002L, relay.phasor(5));
            due.is("an error of measure", -1000000000000000002L, relay.measure(-1));
            due.is("NONE of measure", -1000000000000000006L, relay.measure(8));
        });
        edges.test("CONVENTIONS: divisions are truncated toward 0, above 0 and below it", () -> {
            ZoneRelay relay = new ZoneRelay();
            relay.ramp(2, 1, -1, 3, -3);
            relay.pass(1);
            due.is("a ramp at 0.5", 0, relay.phasor(0));
            due.is("a ramp at -0.5", 0, relay.phasor(1));
            due.is("a ramp at 1.5", 1, relay.phasor(2));
            due.is("a ramp at -1.5", -1, relay.phasor(3));
            relay.set(ZoneRelay.MINIMUM, 1);
            Wave.stand(relay, 3, -3, 2000, 0);
            due.is("R of 1.5", 1, relay.measure(8));
            due.is("X of -1.5", -1, relay.measure(9));
            Wave.stand(relay, -1, 1, 2000, 0);
            due.is("R of -0.5", 0, relay.measure(8));
            due.is("X of 0.5", 0, relay.measure(9));
        });
        edges.test("CONVENTIONS: there are 24 samples to a cycle", () -> {
            ZoneRelay relay = new ZoneRelay();
            relay.apply(20000, 20000, 20000, 20000);
            relay.pass(24);
            long cycle = relay.measure(0);
            relay.pass(1);
            due.is("a sample later", cycle, relay.measure(0));
            relay.pass(5000);
            due.is("many samples later", cycle, relay.measure(0));
        });
    }

    private static void noneIsNoError() {
        edges.test("CONVENTIONS: NONE is returned only if no error applies", () -> {
            ZoneRelay relay = new ZoneRelay();
            due.is("event(0, 0)", ZoneRelay.NONE, relay.event(0, 0));
            due.is("event(0, 2)", ZoneRelay.BAD_VALUE, relay.event(0, 2));
            due.is("reach(0, 5)", ZoneRelay.NONE, relay.reach(0, 5));
            due.is("reach(0, -1)", ZoneRelay.BAD_VALUE, relay.reach(0, -1));
            due.is("reach(3, 5)", ZoneRelay.NO_SUCH, relay.reach(3, 5));
            due.is("test(0, 5, 1, 0)", ZoneRelay.NONE, relay.test(0, 5, 1, 0));
            due.is("test(0, 5, 0, 0)", ZoneRelay.BAD_VALUE, relay.test(0, 5, 0, 0));
            due.is("forecast(1)", ZoneRelay.NONE, relay.forecast(1));
            due.is("forecast(-1)", ZoneRelay.BAD_VALUE, relay.forecast(-1));
            due.is("spell(0, 0)", ZoneRelay.NONE, relay.spell(0, 0));
            due.is("spell(5, 0)", ZoneRelay.NO_SUCH, relay.spell(5, 0));
            due.is("tripped()", ZoneRelay.NONE, relay.tripped());
            due.is("reset()", ZoneRelay.NONE, relay.reset());
        });
    }

    // ---- promises

    private static void count() {
        edges.range("30: what is 0 to 17, else BAD_VALUE", ZoneRelay.BAD_VALUE, 0, 17, (relay, n) -> relay.count(n));
        edges.test("30: each number of a new object", () -> {
            ZoneRelay relay = new ZoneRelay();
            int[] want = {0, 0, 0, 10000, 100, 1000, 500, 3000, 20000, 5000, 100, 1000, 48, 20000, 500, 0, 24, 0};
            for (int what = 0; what <= 17; what++) {
                due.is("count(" + what + ")", want[what], relay.count(what));
            }
        });
        edges.test("30: each number at its greatest", () -> {
            ZoneRelay relay = new ZoneRelay();
            int[] greatest = {20000, 20000, 1000, 20000, 10000, 7, 1000, 7};
            relay.network(0, 20000, 0);
            for (int part = 1; part <= 3; part++) {
                relay.network(part, 20000, 20000);
            }
            for (int setting = 0; setting < 8; setting++) {
                relay.set(setting, greatest[setting]);
            }
            for (int what = 3; what <= 9; what++) {
                due.is("count(" + what + ")", 20000, relay.count(what));
            }
            for (int setting = 0; setting < 8; setting++) {
                due.is("setting " + setting, greatest[setting], relay.count(10 + setting));
            }
        });
    }

    private static void countOfEventsAndPad() {
        edges.test("30: all events that there were so far, also those that the log does not keep any more", () -> {
            ZoneRelay relay = new ZoneRelay();
            relay.zone(1, 2400, ZoneRelay.BOTH);
            Wave.stand(relay, 1000, 0, 1000, 0);
            Shapes.box(relay, 1, -2000, -2000, 2000, 2000);
            for (int events = 0; events <= 125; events++) {
                due.is("events", events, relay.count(1));
                relay.set(ZoneRelay.MINIMUM, events % 2 == 0 ? 1000 : 1001);
                relay.pass(1);
            }
        });
        edges.test("30: the length of an empty and of a full pad", () -> {
            ZoneRelay relay = new ZoneRelay();
            due.is("empty", 0, relay.count(2));
            for (int i = 0; i < 81; i++) {
                relay.say('1');
            }
            due.is("full", 80, relay.count(2));
        });
    }

    private static void save() {
        edges.range("31: slot is 0 or 1, else BAD_VALUE", ZoneRelay.BAD_VALUE, 0, 1, (relay, n) -> relay.save(n));
        edges.test("31: at the time 0, before anything was set", () -> {
            ZoneRelay relay = new ZoneRelay();
            due.is("save(1)", 0, relay.save(1));
            relay.corner(0, 1, 1);
            relay.pass(7);
            due.is("restore(1)", 0, relay.restore(1));
            due.is("the other slot is empty", ZoneRelay.NOT_POSSIBLE, relay.restore(0));
            due.same("a new relay", Busy.now(new ZoneRelay()), Busy.now(relay));
        });
        edges.test("31: overwrites what was saved there, and not the other slot", () -> {
            ZoneRelay relay = new ZoneRelay();
            relay.pass(1);
            relay.save(0);
            relay.save(1);
            relay.pass(1);
            due.is("save(0) again", 2, relay.save(0));
            relay.pass(1);
            due.is("restore(1)", 1, relay.restore(1));
            due.is("restore(0)", 2, relay.restore(0));
        });
        edges.test("31: what is done after it does not change the slot", () -> {
            ZoneRelay relay = Busy.relay();
            relay.save(1);
            String then = Busy.now(relay);
            relay.pass(60);
            relay.reset();
            for (int polygon = 0; polygon < 5; polygon++) {
                relay.clear(polygon);
            }
            relay.set(ZoneRelay.MINIMUM, 20000);
            relay.network(2, 0, 0);
            relay.zone(2, 1, 0);
            relay.apply(1, 2, 3, 4);
            relay.pass(30);
            relay.restore(1);
            due.same("restored", then, Busy.now(relay));
        });
    }

    private static void restore() {
        edges.range("32: slot is 0 or 1, else BAD_VALUE", ZoneRelay.BAD_VALUE, 0, 1, relay -> relay.save(1), (relay, n) -> relay.restore(n));
        edges.refused("32: NOT_POSSIBLE if nothing was saved in it", ZoneRelay.NOT_POSSIBLE, relay -> relay.restore(1));
        edges.test("32: NOT_POSSIBLE of both slots of a new object", () -> {
            ZoneRelay relay = new ZoneRelay();
            due.is("restore(0)", ZoneRelay.NOT_POSSIBLE, relay.restore(0));
            due.is("restore(1)", ZoneRelay.NOT_POSSIBLE, relay.restore(1));
            due.is("BAD_VALUE before that, above", ZoneRelay.BAD_VALUE, relay.restore(2));
            due.is("BAD_VALUE before that, below", ZoneRelay.BAD_VALUE, relay.restore(-1));
            due.is("the time", 0, relay.count(0));
        });
        edges.test("32: the slot keeps it, for a second time and a third", () -> {
            ZoneRelay relay = new ZoneRelay();
            relay.pass(3);
            relay.save(0);
            for (int time = 0; time < 3; time++) {
                relay.corner(0, 1, 1);
                relay.pass(10);
                due.is("restore(0)", 3, relay.restore(0));
                due.is("no corner", ZoneRelay.NO_SUCH, relay.at(0, 0, 0));
            }
        });
        edges.test("32: the pad stays, empty or full", () -> {
            ZoneRelay relay = new ZoneRelay();
            relay.save(0);
            for (int i = 0; i < 80; i++) {
                relay.say('1');
            }
            relay.save(1);
            relay.restore(0);
            due.is("a full one", 80, relay.count(2));
            relay.wipe();
            relay.restore(1);
            due.is("an empty one", 0, relay.count(2));
        });
        edges.test("32: the slots stay", () -> {
            ZoneRelay relay = new ZoneRelay();
            relay.save(0);
            relay.pass(5);
            relay.save(1);
            due.is("restore(0)", 0, relay.restore(0));
            due.is("the slot 1 is still there", 5, relay.restore(1));
        });
    }

    private static void restoreEverything() {
        edges.test("32: everything is restored, and goes on as it would have gone on", () -> {
            ZoneRelay relay = Busy.relay();
            relay.save(1);
            relay.restore(0);
            relay.pass(2);
            relay.restore(1);
            ZoneRelay other = Busy.relay();
            due.same("as it was", Busy.now(other), Busy.now(relay));
            relay.pass(35);
            other.pass(35);
            due.same("as it goes on", Busy.now(other), Busy.now(relay));
        });
        edges.test("32: polygons become as full or as empty as they were", () -> {
            ZoneRelay relay = Busy.relay();
            relay.save(1);
            relay.clear(1);
            for (int i = 0; i < 4; i++) {
                relay.corner(0, i, i);
            }
            relay.restore(1);
            due.is("the full one", ZoneRelay.TOO_MANY, relay.corner(1, 0, 0));
            due.is("the full one is sound", 0, relay.sound(1));
            due.is("the other one", 4, relay.clear(0));
        });
    }

    private static void restoreWrapsAround() {
        edges.test("32: the samples of a cycle are restored, at any place of the cycle", () -> {
            for (int time = 0; time <= 50; time += 5) {
                ZoneRelay relay = new ZoneRelay();
                relay.ramp(40, 20000, -7000, 300, 9000);
                if (time > 0) {
                    relay.pass(time);
                }
                relay.save(0);
                relay.pass(13);
                String later = Busy.now(relay);
                relay.apply(1, 20000, -20000, 4);
                relay.pass(31);
                due.is("the time", time, relay.restore(0));
                relay.pass(13);
                due.same("from " + time + " on", later, Busy.now(relay));
            }
        });
        edges.test("32: a full log is restored, its times and its kinds", () -> {
            ZoneRelay relay = new ZoneRelay();
            relay.zone(1, 2400, ZoneRelay.BOTH);
            relay.zone(2, 2400, ZoneRelay.BOTH);
            Wave.stand(relay, 1000, 0, 1000, 0);
            makeEvents(relay, 1, 61);
            relay.save(0);
            relay.clear(1);
            makeEvents(relay, 2, 64);
            relay.restore(0);
            due.is("events", 61, relay.count(1));
            due.is("the first is not kept", ZoneRelay.NONE, relay.event(0, 0));
            for (int event = 1; event <= 60; event++) {
                due.is("time of " + event, 24 + event, relay.event(event, 0));
                due.is("kind of " + event, event % 2 == 0 ? 11 : 21, relay.event(event, 1));
            }
            due.is("none after them", ZoneRelay.NONE, relay.event(61, 0));
        });
    }

    /** Each sample makes one event: the zone is picked up, and is not any more. */
    private static void makeEvents(ZoneRelay relay, int zone, int events) {
        Shapes.box(relay, zone, -2000, -2000, 2000, 2000);
        for (int i = 0; i < events; i++) {
            relay.set(ZoneRelay.MINIMUM, i % 2 == 0 ? 1000 : 1001);
            relay.pass(1);
        }
    }
}
