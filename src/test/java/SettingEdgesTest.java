/** Boundary cases of SETTINGS and of the promises 7 and 8. */
public final class SettingEdgesTest {
    private static final Edges edges = new Edges();
    private static final Due due = edges.due;
    private static final String[] NAMES = {
        "MINIMUM", "MEMORY_LEVEL", "MEMORY_HOLD", "LOAD_FROM", "LOAD_SLOPE", "LOAD_ZONES", "SWING_TIME", "SWING_ZONES"
    };
    private static final int[] LEAST = {1, 0, 0, 0, 0, 0, 1, 0};
    private static final int[] GREATEST = {20000, 20000, 1000, 20000, 10000, 7, 1000, 7};
    private static final int[] FIRST = {100, 1000, 48, 20000, 500, 0, 24, 0};
    private static final int[] FIRST_DELAYS = {4, 480, 1200};

    public static void main(String[] args) {
        for (int setting = 0; setting < 8; setting++) {
            eachSetting(setting);
        }
        set();
        for (int zone = 0; zone < 3; zone++) {
            eachZone(zone);
        }
        zone();
        theTimerStays();
        edges.finish("SETTINGS", "7", "8");
    }

    private static void eachSetting(int setting) {
        String name = NAMES[setting];
        int least = LEAST[setting];
        int greatest = GREATEST[setting];
        edges.range("SETTINGS: " + name + " is " + least + " to " + greatest, ZoneRelay.BAD_VALUE, least, greatest, (relay, n) -> relay.set(setting, n));
        edges.test("SETTINGS: the first value of " + name + " is " + FIRST[setting], () -> {
            ZoneRelay relay = new ZoneRelay();
            due.is("count", FIRST[setting], relay.count(10 + setting));
            due.is("set", FIRST[setting], relay.set(setting, 7));
        });
        edges.test("7: " + name + " takes its least and its greatest value, and no other setting changes", () -> {
            ZoneRelay relay = new ZoneRelay();
            due.is("to the least", FIRST[setting], relay.set(setting, least));
            due.is("it is the least", least, relay.count(10 + setting));
            due.is("to the greatest", least, relay.set(setting, greatest));
            due.is("it is the greatest", greatest, relay.count(10 + setting));
            due.is("to the greatest again", greatest, relay.set(setting, greatest));
            for (int other = 0; other < 8; other++) {
                due.is("the setting " + other, other == setting ? greatest : FIRST[other], relay.count(10 + other));
            }
        });
    }

    private static void set() {
        edges.range("7: setting is MINIMUM to SWING_ZONES, else BAD_VALUE", ZoneRelay.BAD_VALUE, 0, 7, (relay, n) -> relay.set(n, 7));
        edges.refused("7: no such setting, and no such value", ZoneRelay.BAD_VALUE, relay -> relay.set(8, -1));
        edges.refused("7: no setting below MINIMUM takes a value of any", ZoneRelay.BAD_VALUE, relay -> relay.set(-1, 1));
    }

    private static void eachZone(int zone) {
        edges.test("SETTINGS: the first delay of zone " + zone + " is " + FIRST_DELAYS[zone] + ", its direction FORWARD", () -> {
            ZoneRelay relay = new ZoneRelay();
            due.is("delay", FIRST_DELAYS[zone], relay.state(zone, 3));
            due.is("direction", 0, relay.state(zone, 4));
            due.is("zone", FIRST_DELAYS[zone], relay.zone(zone, 1, 1));
        });
        edges.range("SETTINGS: the delay of zone " + zone + " is 1 to 2400", ZoneRelay.BAD_VALUE, 1, 2400, (relay, n) -> relay.zone(zone, n, 2));
        edges.range("SETTINGS: the direction of zone " + zone + " is FORWARD (0) to BOTH (2)", ZoneRelay.BAD_VALUE, 0, 2, (relay, n) -> relay.zone(zone, 5, n));
        edges.test("8: zone " + zone + " takes each direction with the least and the greatest delay", () -> {
            ZoneRelay relay = new ZoneRelay();
            int previous = FIRST_DELAYS[zone];
            for (int direction = 0; direction <= 2; direction++) {
                due.is("delay 1", previous, relay.zone(zone, 1, direction));
                due.is("the delay then", 1, relay.state(zone, 3));
                due.is("the direction then", direction, relay.state(zone, 4));
                due.is("delay 2400", 1, relay.zone(zone, 2400, 2 - direction));
                due.is("the delay then", 2400, relay.state(zone, 3));
                due.is("the direction then", 2 - direction, relay.state(zone, 4));
                previous = 2400;
            }
            for (int other = 0; other < 3; other++) {
                due.is("the delay of zone " + other, other == zone ? 2400 : FIRST_DELAYS[other], relay.state(other, 3));
            }
        });
    }

    private static void zone() {
        edges.range("8: zone is 0 to 2, else NO_SUCH", ZoneRelay.NO_SUCH, 0, 2, (relay, n) -> relay.zone(n, 5, 1));
        edges.refused("8: NO_SUCH is checked before the delay", ZoneRelay.NO_SUCH, relay -> relay.zone(3, 0, 0));
        edges.refused("8: NO_SUCH is checked before the direction", ZoneRelay.NO_SUCH, relay -> relay.zone(-1, 1, 3));
        edges.refused("8: INNER is no zone", ZoneRelay.NO_SUCH, relay -> relay.zone(ZoneRelay.INNER, 5, 1));
        edges.refused("8: a wrong delay leaves the direction", ZoneRelay.BAD_VALUE, relay -> relay.zone(1, 2401, 1));
        edges.refused("8: a wrong direction leaves the delay", ZoneRelay.BAD_VALUE, relay -> relay.zone(1, 5, -1));
    }

    private static void theTimerStays() {
        edges.test("8: the timer stays, just below its delay and just at it", () -> {
            ZoneRelay relay = new ZoneRelay();
            Shapes.box(relay, 1, 500, -500, 1500, 500);
            relay.zone(1, 2400, ZoneRelay.BOTH);
            relay.apply(4096, 0, 4096, 0);
            relay.pass(10);
            due.is("its timer", 10, relay.state(1, 1));
            due.is("zone(1, 12, BOTH)", 2400, relay.zone(1, 12, ZoneRelay.BOTH));
            due.is("its timer then", 10, relay.state(1, 1));
            due.is("what is left", 2, relay.state(1, 2));
            relay.pass(1);
            due.is("not tripped at 11 of 12", ZoneRelay.NONE, relay.tripped());
            due.is("zone(1, 11, BOTH)", 12, relay.zone(1, 11, ZoneRelay.BOTH));
            due.is("nothing is left", 0, relay.state(1, 2));
            due.is("not tripped without a sample", ZoneRelay.NONE, relay.tripped());
            relay.zone(1, 13, ZoneRelay.BOTH);
            relay.pass(1);
            due.is("not tripped at 12 of 13", ZoneRelay.NONE, relay.tripped());
            relay.pass(1);
            due.is("tripped at 13 of 13", 1, relay.tripped());
        });
    }
}
