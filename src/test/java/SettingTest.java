/** Promises 7 and 8: set and zone. */
public final class SettingTest {
    private static final Due due = new Due();
    private static final int[][] RANGES = {
        {1, 20000}, {0, 20000}, {0, 1000}, {0, 20000}, {0, 10000}, {0, 7}, {1, 1000}, {0, 7}
    };
    private static final int[] FIRST = {100, 1000, 48, 20000, 500, 0, 24, 0};

    public static void main(String[] args) {
        promise7Set();
        promise7Errors();
        promise8Zone();
        promise8TheTimerStays();
        due.finish();
    }

    private static void promise7Set() {
        ZoneRelay relay = new ZoneRelay();
        for (int setting = 0; setting < 8; setting++) {
            String what = "setting " + setting;
            int lowest = RANGES[setting][0];
            int highest = RANGES[setting][1];
            due.is(what + ": its first value", FIRST[setting], relay.set(setting, lowest));
            due.is(what + ": the lowest", lowest, relay.set(setting, highest));
            due.is(what + ": below", ZoneRelay.BAD_VALUE, relay.set(setting, lowest - 1));
            due.is(what + ": above", ZoneRelay.BAD_VALUE, relay.set(setting, highest + 1));
            due.is(what + ": the highest", highest, relay.count(10 + setting));
            for (int other = setting + 1; other < 8; other++) {
                due.is(what + ": others stay", FIRST[other], relay.count(10 + other));
            }
        }
    }

    private static void promise7Errors() {
        ZoneRelay relay = new ZoneRelay();
        due.is("set(-1, 1)", ZoneRelay.BAD_VALUE, relay.set(-1, 1));
        due.is("set(8, 1)", ZoneRelay.BAD_VALUE, relay.set(8, 1));
        due.is("set(least int, 1)", ZoneRelay.BAD_VALUE, relay.set(Integer.MIN_VALUE, 1));
        due.is("set(0, greatest int)", ZoneRelay.BAD_VALUE, relay.set(0, Integer.MAX_VALUE));
    }

    private static void promise8Zone() {
        ZoneRelay relay = new ZoneRelay();
        int[] delays = {4, 480, 1200};
        for (int zone = 0; zone < 3; zone++) {
            due.is("its first delay", delays[zone], relay.zone(zone, 2400, ZoneRelay.BOTH));
            due.is("its delay then", 2400, relay.zone(zone, 1, ZoneRelay.REVERSE));
            due.is("delay 0", ZoneRelay.BAD_VALUE, relay.zone(zone, 0, 0));
            due.is("delay 2401", ZoneRelay.BAD_VALUE, relay.zone(zone, 2401, 0));
            due.is("direction -1", ZoneRelay.BAD_VALUE, relay.zone(zone, 7, -1));
            due.is("direction 3", ZoneRelay.BAD_VALUE, relay.zone(zone, 7, 3));
            due.is("an error changes no delay", 1, relay.state(zone, 3));
            due.is("an error changes no direction", ZoneRelay.REVERSE, relay.state(zone, 4));
        }
        due.is("zone(-1, ..)", ZoneRelay.NO_SUCH, relay.zone(-1, 4, 0));
        due.is("zone(3, ..)", ZoneRelay.NO_SUCH, relay.zone(3, 4, 0));
        due.is("no zone comes before a wrong delay", ZoneRelay.NO_SUCH, relay.zone(3, 0, 9));
    }

    private static void promise8TheTimerStays() {
        ZoneRelay relay = new ZoneRelay();
        Shapes.box(relay, 1, 500, -500, 1500, 500);
        relay.apply(4096, 0, 4096, 0);
        relay.pass(30);
        int timer = relay.state(1, 1);
        due.holds("the timer runs", timer > 20);
        due.is("zone(1, 2000, BOTH)", 480, relay.zone(1, 2000, ZoneRelay.BOTH));
        due.is("the timer after that", timer, relay.state(1, 1));
        due.is("what is left", 2000 - timer, relay.state(1, 2));
        due.is("zone(1, timer, BOTH)", 2000, relay.zone(1, timer, ZoneRelay.BOTH));
        due.is("nothing is left", 0, relay.state(1, 2));
        due.is("not tripped before a sample", ZoneRelay.NONE, relay.tripped());
        relay.zone(1, 5, ZoneRelay.BOTH);
        due.is("never below 0", 0, relay.state(1, 2));
        relay.pass(1);
        due.is("tripped by the sample", 1, relay.tripped());
        due.is("the timer goes on", timer + 1, relay.state(1, 1));
    }
}
