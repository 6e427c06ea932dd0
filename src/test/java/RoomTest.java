import java.lang.management.ManagementFactory;

/** The calls of a run share one room: no call makes objects anew, however often it comes. */
public final class RoomTest {
    private static final Due due = new Due();
    private static final long FEW_BYTES = 20000;

    public static void main(String[] args) {
        ZoneRelay relay = new ZoneRelay();
        for (int polygon = 0; polygon < 5; polygon++) {
            for (int i = 0; i < 8; i++) {
                relay.corner(polygon, -20000, -20000);
            }
        }
        everyCall(relay);
        long before = bytes();
        for (int i = 0; i < 512; i++) {
            everyCall(relay);
        }
        long made = bytes() - before;
        due.holds("512 times every call makes " + made + " bytes", made < FEW_BYTES);
        before = bytes();
        ZoneRelay another = new ZoneRelay();
        made = bytes() - before;
        due.holds("an object has " + made + " bytes", made < FEW_BYTES);
        due.is("the time of another", 0, another.count(0));
        due.finish();
    }

    private static long bytes() {
        return ((com.sun.management.ThreadMXBean) ManagementFactory.getThreadMXBean()).getThreadAllocatedBytes(Thread.currentThread().getId());
    }

    private static void everyCall(ZoneRelay relay) {
        relay.contains(0, 1, 1);
        relay.ramp(10, 1, 2, 3, 4);
        relay.fault(1, 1);
        relay.healthy();
        relay.pass(20);
        relay.measure(8);
        relay.covers(10, 10);
        relay.reach(0, 0);
        relay.test(100, 100, 30, 0);
        relay.forecast(30);
        for (int i = 0; i < 80; i++) {
            relay.say('1');
        }
        relay.flaw();
        relay.load(0);
        relay.wipe();
        relay.spell(0, -1);
        relay.spell(0, 20);
        relay.save(0);
        relay.save(1);
        relay.restore(0);
    }
}
