/** Promises 30 to 32: count, save and restore. */
public final class SavingTest {
    private static final Due due = new Due();

    public static void main(String[] args) {
        promise30Count();
        promise31Save();
        promise31Overwrites();
        promise32Restore();
        promise32EverythingComesBack();
        promise32NoImpedance();
        promise32SlotsAndPad();
        due.finish();
    }

    private static void promise30Count() {
        ZoneRelay relay = new ZoneRelay();
        due.is("count(-1)", ZoneRelay.BAD_VALUE, relay.count(-1));
        due.is("count(18)", ZoneRelay.BAD_VALUE, relay.count(18));
        due.is("count(least int)", ZoneRelay.BAD_VALUE, relay.count(Integer.MIN_VALUE));
        relay.network(0, 11, 0);
        relay.network(1, 12, 13);
        relay.network(2, 14, 15);
        relay.network(3, 16, 17);
        int[] values = {18, 19, 20, 21, 22, 3, 24, 5};
        for (int setting = 0; setting < 8; setting++) {
            relay.set(setting, values[setting]);
        }
        for (int what = 3; what <= 9; what++) {
            due.is("count(" + what + ")", 8 + what, relay.count(what));
        }
        for (int setting = 0; setting < 8; setting++) {
            due.is("setting " + setting, values[setting], relay.count(10 + setting));
        }
        relay.say('a');
        relay.say('b');
        due.is("the pad", 2, relay.count(2));
        relay.pass(100);
        due.is("the time", 100, relay.count(0));
        due.is("no event", 0, relay.count(1));
        Shapes.box(relay, 0, -20000, -20000, 20000, 20000);
        relay.set(ZoneRelay.LOAD_ZONES, 0);
        relay.apply(4096, 0, 4096, 0);
        relay.pass(24);
        due.is("events", 2, relay.count(1));
    }

    private static void promise31Save() {
        ZoneRelay relay = new ZoneRelay();
        relay.pass(9);
        due.is("save(0)", 9, relay.save(0));
        due.is("save(1)", 9, relay.save(1));
        due.is("save(-1)", ZoneRelay.BAD_VALUE, relay.save(-1));
        due.is("save(2)", ZoneRelay.BAD_VALUE, relay.save(2));
        relay.say('x');
        relay.pass(1);
        due.is("save(1)", 10, relay.save(1));
        due.is("the time goes on", 10, relay.count(0));
        due.is("the pad stays", 1, relay.count(2));
    }

    private static void promise31Overwrites() {
        ZoneRelay relay = new ZoneRelay();
        relay.save(0);
        relay.corner(0, 1, 1);
        relay.pass(3);
        relay.save(0);
        relay.corner(0, 2, 2);
        relay.pass(3);
        due.is("restore(0)", 3, relay.restore(0));
        due.is("the corners of then", 1, relay.clear(0));
        relay.pass(1);
        due.is("what was changed since does not change the slot", 3, relay.restore(0));
        due.is("its corners neither", 1, relay.clear(0));
    }

    private static void promise32Restore() {
        ZoneRelay relay = new ZoneRelay();
        due.is("restore(-1)", ZoneRelay.BAD_VALUE, relay.restore(-1));
        due.is("restore(2)", ZoneRelay.BAD_VALUE, relay.restore(2));
        due.is("restore(1)", ZoneRelay.NOT_POSSIBLE, relay.restore(1));
        relay.pass(5);
        relay.save(0);
        due.is("the other slot is empty", ZoneRelay.NOT_POSSIBLE, relay.restore(1));
        relay.pass(6);
        relay.save(1);
        relay.pass(7);
        due.is("restore(0)", 5, relay.restore(0));
        due.is("restore(1)", 11, relay.restore(1));
        due.is("restore(0) again", 5, relay.restore(0));
    }

    private static void promise32EverythingComesBack() {
        ZoneRelay relay = Busy.relay();
        due.is("there is a swing", 1, relay.measure(11));
        due.is("it is tripped", 2, relay.tripped());
        due.is("a ramp is left", 11, relay.phasor(4));
        due.is("load", 1, relay.measure(12));
        due.holds("events", relay.count(1) >= 3);
        String before = Shapes.everything(relay);
        relay.save(0);
        relay.pass(35);
        relay.save(1);
        String later = Shapes.everything(relay);
        due.holds("something happened", !before.equals(later));
        spoil(relay);
        relay.restore(0);
        due.holds("all is as it was", before.equals(Shapes.everything(relay)));
        relay.pass(35);
        due.holds("and goes on as it did", later.equals(Shapes.everything(relay)));
        spoil(relay);
        relay.restore(1);
        due.holds("the other slot, too", later.equals(Shapes.everything(relay)));
        relay.restore(0);
        due.holds("a slot keeps what it has", before.equals(Shapes.everything(relay)));
    }

    private static void spoil(ZoneRelay relay) {
        for (int polygon = 0; polygon < 5; polygon++) {
            Shapes.box(relay, polygon, 10 * polygon, 0, 100, 100);
        }
        for (int setting = 0; setting < 8; setting++) {
            relay.set(setting, 7);
        }
        for (int part = 0; part < 4; part++) {
            relay.network(part, 77, 0);
        }
        for (int zone = 0; zone < 3; zone++) {
            relay.zone(zone, 7, ZoneRelay.REVERSE);
        }
        relay.reset();
        relay.ramp(9, 7777, 7777, -7777, 777);
        for (int i = 0; i < 70; i++) {
            relay.pass(7);
            relay.apply(0, 0, i % 2 * 7777, 0);
        }
        fillLog(relay);
        relay.ramp(99, 1, 2, 3, 4);
    }

    private static void fillLog(ZoneRelay relay) {
        Shapes.box(relay, 1, -20000, -20000, 20000, 20000);
        relay.zone(1, 2400, ZoneRelay.BOTH);
        relay.set(ZoneRelay.SWING_ZONES, 0);
        relay.set(ZoneRelay.LOAD_ZONES, 0);
        relay.apply(100, 0, 4096, 0);
        relay.pass(24);
        for (int i = 0; i < 70; i++) {
            relay.set(ZoneRelay.MINIMUM, i % 2 == 0 ? 20000 : 1);
            relay.pass(1);
        }
        due.holds("each event is another one", relay.event(relay.count(1) - 60, 0) >= 0);
    }

    private static void promise32NoImpedance() {
        ZoneRelay relay = new ZoneRelay();
        relay.pass(1);
        relay.save(0);
        relay.apply(4096, 0, 4096, 0);
        relay.pass(24);
        relay.save(1);
        relay.restore(0);
        due.is("none was there", 0, relay.measure(7));
        due.is("no R", ZoneRelay.GONE + ZoneRelay.NONE, relay.measure(8));
        relay.restore(1);
        due.is("one was there", 1, relay.measure(7));
        due.is("its R", 1000, relay.measure(8));
    }

    private static void promise32SlotsAndPad() {
        ZoneRelay relay = new ZoneRelay();
        relay.say('1');
        relay.save(0);
        relay.say('2');
        relay.save(1);
        relay.say('3');
        relay.restore(0);
        due.is("the pad is not restored", 3, relay.count(2));
        relay.pass(4);
        relay.restore(0);
        due.is("a slot is not part of what is saved", 0, relay.restore(1));
    }
}
