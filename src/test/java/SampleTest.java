/** Promises 15 to 20: pass, measure, state, tripped, reset and event, and the steps of a sample. */
public final class SampleTest {
    private static final Due due = new Due();
    private static final long NO_NUMBER = ZoneRelay.GONE + ZoneRelay.NONE;
    private static final long BAD_NUMBER = ZoneRelay.GONE + ZoneRelay.BAD_VALUE;

    public static void main(String[] args) {
        promise15Pass();
        promise15SmallStepsAndLargeOnes();
        promise16Estimates();
        promise16EachSample();
        promise16Memory();
        promise16Impedance();
        promise16Minimum();
        promise16StaysUntilASample();
        promise16Between();
        promise16SwingEnds();
        promise16LoadArea();
        promise17State();
        promise17ExactEdges();
        promise17Directions();
        promise17TheLeastNumbers();
        promise17TheMemoryWearsOut();
        promise17Blocks();
        promise18Tripped();
        promise19Reset();
        promise20Event();
        promise20Order();
        promise20TheLatestSixty();
        due.finish();
    }

    private static void promise15Pass() {
        ZoneRelay relay = new ZoneRelay();
        due.is("pass(0)", ZoneRelay.BAD_VALUE, relay.pass(0));
        due.is("pass(-1)", ZoneRelay.BAD_VALUE, relay.pass(-1));
        due.is("pass(5001)", ZoneRelay.BAD_VALUE, relay.pass(5001));
        due.is("pass(greatest int)", ZoneRelay.BAD_VALUE, relay.pass(Integer.MAX_VALUE));
        due.is("no time went by", 0, relay.count(0));
        due.is("pass(1)", 1, relay.pass(1));
        due.is("pass(5000)", 5001, relay.pass(5000));
        due.is("the time", 5001, relay.count(0));
    }

    private static void promise15SmallStepsAndLargeOnes() {
        ZoneRelay small = new ZoneRelay();
        ZoneRelay large = new ZoneRelay();
        for (ZoneRelay relay : new ZoneRelay[] {small, large}) {
            Shapes.box(relay, 0, -2000, -2000, 2000, 2000);
            relay.ramp(70, 5000, 3000, -2000, 1000);
        }
        for (int i = 0; i < 100; i++) {
            small.pass(1);
        }
        large.pass(100);
        due.holds("a hundred samples are a hundred samples", Shapes.everything(small).equals(Shapes.everything(large)));
    }

    private static void promise16Estimates() {
        ZoneRelay relay = new ZoneRelay();
        due.is("measure(-1)", BAD_NUMBER, relay.measure(-1));
        due.is("measure(13)", BAD_NUMBER, relay.measure(13));
        relay.apply(4096, 0, 0, 4096);
        relay.pass(1);
        // x(0) = 4096 * 4096 / 4096, and 4096 * 4096 / 49152; of ib the first sample is 0
        due.estimates("a sample", relay, 341, 0, 0, 0);
        relay.pass(1);
        // x(1) = 3956 and -1060: (4096 * 4096 + 3956 * 3956) / 49152, -3956 * 1060 / 49152, -1060 * 3956 / 49152, 1060 * 1060 / 49152
        due.estimates("two samples", relay, 659, -85, -85, 22);
        relay.pass(22);
        due.estimates("a cycle", relay, 4095, 0, 0, 4095);
        relay.apply(0, 0, 0, 0);
        relay.pass(23);
        // the sample at the time 23 is the last one that is not 0: 3956 * 3956 / 49152 and 3956 * 1060 / 49152
        due.estimates("all but one gone", relay, 318, 85, 85, 22);
        relay.pass(1);
        due.estimates("all gone", relay, 0, 0, 0, 0);
        relay.apply(-20000, 20000, 20000, 20000);
        relay.pass(24);
        due.estimates("the greatest", relay, -19996, 19996, 19996, 19996);
    }

    /** c(0) to c(23), with s(k) = c((k + 18) % 24). */
    private static int c(int k) {
        int[] first = {4096, 3956, 3547, 2896, 2048, 1060, 0};
        int low = k > 12 ? 24 - k : k;
        return low > 6 ? -first[12 - low] : first[low];
    }

    private static void promise16EachSample() {
        for (int turn = 0; turn < 24; turn++) {
            ZoneRelay relay = new ZoneRelay();
            int a = 19999 * c(turn) / 4096;
            int b = 19998 * c((turn + 5) % 24) / 4096;
            relay.apply(a, b, b, -a);
            long[] sums = new long[4];
            for (int t = 0; t < 24; t++) {
                int s = c((t + 18) % 24);
                long v = (a * c(t) - b * s) / 4096;
                long i = (b * c(t) + a * s) / 4096;
                sums[0] += v * c(t);
                sums[1] += -v * s;
                sums[2] += i * c(t);
                sums[3] += -i * s;
                relay.pass(1);
                due.estimates("turn " + turn + ", sample " + t, relay, sums[0] / 49152, sums[1] / 49152, sums[2] / 49152, sums[3] / 49152);
            }
        }
    }

    private static void promise16Memory() {
        ZoneRelay relay = new ZoneRelay();
        relay.apply(3000, -4000, 0, 0);
        relay.pass(24);
        long va = relay.measure(0);
        long vb = relay.measure(1);
        due.is("the memory is the estimate", va, relay.measure(4));
        due.is("the memory is the estimate", vb, relay.measure(5));
        due.is("it is new", 0, relay.measure(6));
        relay.set(ZoneRelay.MEMORY_LEVEL, 20000);
        relay.pass(3);
        due.is("below the level it grows old", 3, relay.measure(6));
        relay.apply(4096, 0, 0, 0);
        relay.pass(24);
        due.is("it stays", va, relay.measure(4));
        due.is("it stays", vb, relay.measure(5));
        due.is("its age", 27, relay.measure(6));
        relay.set(ZoneRelay.MEMORY_LEVEL, 4096);
        relay.pass(1);
        due.is("4095 is below 4096", 28, relay.measure(6));
        relay.set(ZoneRelay.MEMORY_LEVEL, 4095);
        relay.pass(1);
        due.is("4095 is at least 4095", 0, relay.measure(6));
        due.is("a new memory", 4095, relay.measure(4));
        due.is("a new memory", 0, relay.measure(5));
        relay.apply(0, -4096, 0, 0);
        relay.pass(24);
        due.is("the second number counts as the first", 0, relay.measure(6));
        relay.set(ZoneRelay.MEMORY_LEVEL, 4096);
        relay.pass(1);
        due.is("up to its size", 1, relay.measure(6));
        ZoneRelay idle = new ZoneRelay();
        idle.pass(5);
        due.is("without a voltage the age grows", 5, idle.measure(6));
        idle.set(ZoneRelay.MEMORY_LEVEL, 0);
        idle.pass(1);
        due.is("the level 0 takes no voltage", 0, idle.measure(6));
    }

    private static void promise16Impedance() {
        ZoneRelay relay = new ZoneRelay();
        relay.apply(-8192, 4096, 4096, 0);
        relay.pass(24);
        due.is("there is one", 1, relay.measure(7));
        long d = relay.measure(2) * relay.measure(2) + relay.measure(3) * relay.measure(3);
        long p = relay.measure(0) * relay.measure(2) + relay.measure(1) * relay.measure(3);
        long q = relay.measure(1) * relay.measure(2) - relay.measure(0) * relay.measure(3);
        due.is("R", 1000 * p / d, relay.measure(8));
        due.is("X", 1000 * q / d, relay.measure(9));
        relay.apply(-1000, 1000, 3000, 0);
        relay.pass(24);
        due.is("R is truncated toward 0", -333, relay.measure(8));
        due.is("X is truncated toward 0", 333, relay.measure(9));
        relay.apply(1024, 0, 0, 4096);
        relay.pass(24);
        due.is("a current ahead by a quarter: R", 0, relay.measure(8));
        due.is("a current ahead by a quarter: X", -1000 * relay.measure(0) / relay.measure(3), relay.measure(9));
        relay.set(ZoneRelay.MINIMUM, 1);
        relay.apply(20000, 20000, 1, 0);
        relay.pass(24);
        due.is("the current of 1 is lost in the samples", 0, relay.measure(7));
        relay.apply(20000, 20000, 4, 0);
        relay.pass(24);
        due.is("a current of a few", 1, relay.measure(7));
        due.is("R is large", 1000 * relay.measure(0) / relay.measure(2), relay.measure(8));
    }

    private static void promise16Minimum() {
        ZoneRelay relay = new ZoneRelay();
        relay.apply(1000, 0, 4096, 0);
        relay.pass(24);
        due.is("the estimate", 4095, relay.measure(2));
        relay.set(ZoneRelay.MINIMUM, 4095);
        relay.pass(1);
        due.is("just at the minimum", 1, relay.measure(7));
        relay.set(ZoneRelay.MINIMUM, 4096);
        due.is("a setting changes no measurement", 1, relay.measure(7));
        relay.pass(1);
        due.is("below the minimum", 0, relay.measure(7));
        due.is("no R", NO_NUMBER, relay.measure(8));
        due.is("no X", NO_NUMBER, relay.measure(9));
        due.is("not in the load area", 0, relay.measure(12));
        relay.apply(1000, 0, 3000, 4000);
        relay.pass(24);
        due.holds("both numbers count", relay.measure(2) < 4096 && relay.measure(3) < 4096);
        due.is("together they are enough", 1, relay.measure(7));
    }

    private static void promise16StaysUntilASample() {
        ZoneRelay relay = new ZoneRelay();
        Shapes.box(relay, 0, -2000, -2000, 2000, 2000);
        relay.apply(4000, 1000, 2000, -700);
        relay.pass(40);
        StringBuilder before = new StringBuilder();
        StringBuilder after = new StringBuilder();
        for (int what = 0; what <= 12; what++) {
            before.append(relay.measure(what)).append(' ');
        }
        relay.apply(-1, -1, -1, -1);
        relay.set(ZoneRelay.LOAD_FROM, 0);
        relay.set(ZoneRelay.LOAD_SLOPE, 10000);
        relay.set(ZoneRelay.MINIMUM, 20000);
        relay.clear(0);
        relay.reset();
        for (int what = 0; what <= 12; what++) {
            after.append(relay.measure(what)).append(' ');
        }
        due.holds("nothing that is set changes it: " + before + "/ " + after, before.toString().equals(after.toString()));
        due.is("nor what is picked up", 1, relay.state(0, 0));
    }

    /** A relay in which the point is at R = 1000 and X = 0, in OUTER, and a cycle is full. */
    private static ZoneRelay swinging() {
        ZoneRelay relay = new ZoneRelay();
        relay.apply(4096, 0, 4096, 0);
        relay.pass(48);
        Shapes.box(relay, ZoneRelay.OUTER, -2000, -2000, 2000, 2000);
        return relay;
    }

    private static void inner(ZoneRelay relay, boolean around) {
        if (around) {
            Shapes.box(relay, ZoneRelay.INNER, -1500, -1500, 1500, 1500);
        } else {
            relay.clear(ZoneRelay.INNER);
        }
    }

    private static void promise16Between() {
        ZoneRelay relay = swinging();
        due.is("not in OUTER", 0, relay.measure(10));
        relay.set(ZoneRelay.SWING_TIME, 5);
        relay.pass(4);
        due.is("in OUTER, not in INNER", 4, relay.measure(10));
        inner(relay, true);
        relay.pass(3);
        due.is("in both it stays", 4, relay.measure(10));
        due.is("4 is less than 5", 0, relay.measure(11));
        inner(relay, false);
        relay.pass(1);
        due.is("it goes on", 5, relay.measure(10));
        due.is("no swing outside of INNER", 0, relay.measure(11));
        inner(relay, true);
        relay.pass(1);
        due.is("5 is at least 5", 1, relay.measure(11));
        due.is("it stays", 5, relay.measure(10));
        due.is("an event at its time", 48 + 8, relay.event(relay.count(1) - 1, 0));
        due.is("an event", 40, relay.event(relay.count(1) - 1, 1));
        relay.pass(3);
        inner(relay, false);
        relay.pass(2);
        due.is("it counts in a swing, too", 7, relay.measure(10));
        due.is("the swing goes on", 1, relay.measure(11));
        inner(relay, true);
        relay.set(ZoneRelay.SWING_TIME, 1000);
        relay.pass(1);
        due.is("a swing that is there stays", 1, relay.measure(11));
        due.is("no more events", 1, relay.count(1));
    }

    private static void promise16SwingEnds() {
        ZoneRelay relay = swinging();
        relay.set(ZoneRelay.SWING_TIME, 1);
        relay.pass(1);
        inner(relay, true);
        relay.pass(1);
        due.is("a swing", 1, relay.measure(11));
        relay.clear(ZoneRelay.OUTER);
        relay.pass(1);
        due.is("it ends outside of OUTER, though in INNER", 0, relay.measure(11));
        due.is("BETWEEN", 0, relay.measure(10));
        due.is("an event", 41, relay.event(1, 1));
        relay.pass(5);
        due.is("once", 2, relay.count(1));
        inner(relay, false);
        Shapes.box(relay, ZoneRelay.OUTER, -2000, -2000, 2000, 2000);
        relay.pass(1);
        inner(relay, true);
        relay.pass(1);
        due.is("a swing again", 1, relay.measure(11));
        relay.set(ZoneRelay.MINIMUM, 20000);
        relay.pass(1);
        due.is("it ends without an impedance", 0, relay.measure(11));
        due.is("BETWEEN", 0, relay.measure(10));
        due.holds("the events", Shapes.kinds(relay).equals("40 41 40 41"));
    }

    private static void promise16LoadArea() {
        ZoneRelay relay = new ZoneRelay();
        relay.apply(-8192, 2048, 4096, 0);
        relay.pass(24);
        // the estimates are those of the phasors but for what the truncation takes
        long r = Math.abs(relay.measure(0) * relay.measure(2));
        long x = Math.abs(relay.measure(1) * relay.measure(2));
        due.holds("the current is turned by nothing", relay.measure(3) == 0 && r > 0 && x > 0);
        due.is("R", -2000, relay.measure(8));
        int slope = (int) (x * 1000 / r);
        due.holds("the slope is not even", x * 1000 % r != 0);
        relay.set(ZoneRelay.LOAD_FROM, 0);
        relay.set(ZoneRelay.LOAD_SLOPE, slope + 1);
        relay.pass(1);
        due.is("flat enough", 1, relay.measure(12));
        relay.set(ZoneRelay.LOAD_SLOPE, slope);
        relay.pass(1);
        due.is("too steep by a bit", 0, relay.measure(12));
        relay.set(ZoneRelay.LOAD_SLOPE, 10000);
        relay.set(ZoneRelay.LOAD_FROM, 2001);
        relay.pass(1);
        due.is("too near", 0, relay.measure(12));
        relay.set(ZoneRelay.LOAD_FROM, 2000);
        relay.pass(1);
        due.is("far enough", 1, relay.measure(12));
        exactSlope(relay);
        relay.apply(4096, 0, 4096, 0);
        relay.pass(24);
        relay.set(ZoneRelay.LOAD_FROM, 1000);
        relay.set(ZoneRelay.LOAD_SLOPE, 0);
        relay.pass(1);
        due.is("1000 is at least 1000, and 0 at most 0", 1, relay.measure(12));
        relay.set(ZoneRelay.LOAD_FROM, 1001);
        relay.pass(1);
        due.is("1000 is less than 1001", 0, relay.measure(12));
        relay.apply(0, 0, 4096, 0);
        relay.pass(24);
        relay.set(ZoneRelay.LOAD_FROM, 0);
        relay.pass(1);
        due.is("the point (0, 0)", 1, relay.measure(12));
    }

    /** |X| * 1000 is compared with LOAD_SLOPE * |R| as it is: where both are the same, the point is in. */
    private static void exactSlope(ZoneRelay relay) {
        relay.set(ZoneRelay.LOAD_FROM, 0);
        relay.apply(4096, 4096, 4096, 0);
        relay.pass(24);
        due.is("va is vb", relay.measure(0), relay.measure(1));
        relay.set(ZoneRelay.LOAD_SLOPE, 1000);
        relay.pass(1);
        due.is("X is R, and the slope 1", 1, relay.measure(12));
        relay.set(ZoneRelay.LOAD_SLOPE, 999);
        relay.pass(1);
        due.is("X is R, and the slope less than 1", 0, relay.measure(12));
        relay.set(ZoneRelay.LOAD_SLOPE, 10000);
    }

    private static void promise17State() {
        ZoneRelay relay = new ZoneRelay();
        for (int what = 0; what <= 4; what++) {
            due.is("state(-1, ..)", ZoneRelay.NO_SUCH, relay.state(-1, what));
            due.is("state(3, ..)", ZoneRelay.NO_SUCH, relay.state(3, what));
        }
        due.is("state(3, 5)", ZoneRelay.NO_SUCH, relay.state(3, 5));
        due.is("state(2, 5)", ZoneRelay.BAD_VALUE, relay.state(2, 5));
        due.is("state(0, -1)", ZoneRelay.BAD_VALUE, relay.state(0, -1));
        relay.apply(4096, 0, 4096, 0);
        relay.pass(24);
        Shapes.box(relay, 2, 500, -500, 1500, 500);
        relay.zone(2, 3, ZoneRelay.BOTH);
        relay.pass(1);
        due.is("picked up", 1, relay.state(2, 0));
        due.is("its timer", 1, relay.state(2, 1));
        due.is("what is left", 2, relay.state(2, 2));
        due.is("its delay", 3, relay.state(2, 3));
        due.is("its direction", ZoneRelay.BOTH, relay.state(2, 4));
        due.is("the zone 0 is not", 0, relay.state(0, 0));
        relay.pass(4);
        due.is("its timer", 5, relay.state(2, 1));
        due.is("nothing is left", 0, relay.state(2, 2));
        relay.clear(2);
        due.is("picked up until a sample", 1, relay.state(2, 0));
        relay.pass(1);
        due.is("not any more", 0, relay.state(2, 0));
        due.is("the timer is 0 at once", 0, relay.state(2, 1));
        due.is("all is left", 3, relay.state(2, 2));
        Shapes.box(relay, 2, 500, -500, 1500, 500);
        relay.set(ZoneRelay.MINIMUM, 4096);
        relay.pass(1);
        due.is("without an impedance no zone is picked up", 0, relay.state(2, 0));
        relay.set(ZoneRelay.MINIMUM, 4095);
        relay.pass(1);
        due.is("with one it is", 1, relay.state(2, 0));
    }

    /** The point is compared exactly, not as it is told by measure(). */
    private static void promise17ExactEdges() {
        ZoneRelay relay = new ZoneRelay();
        for (int zone = 0; zone < 3; zone++) {
            relay.zone(zone, 2400, ZoneRelay.BOTH);
        }
        relay.apply(5000, 3000, 4096, 0);
        relay.pass(24);
        int r = (int) relay.measure(8);
        int x = (int) relay.measure(9);
        long d = relay.measure(2) * relay.measure(2);
        due.holds("there is something behind the point", relay.measure(3) == 0
            && 1000 * relay.measure(0) * relay.measure(2) % d != 0 && 1000 * relay.measure(1) * relay.measure(2) % d != 0);
        Shapes.box(relay, 0, -100, -100, r, 20000);
        Shapes.box(relay, 1, -100, -100, 20000, x);
        Shapes.box(relay, 2, r, x, r + 1, x + 1);
        relay.pass(1);
        due.is("beyond the edge by less than 1", 0, relay.state(0, 0));
        due.is("above the edge by less than 1", 0, relay.state(1, 0));
        due.is("between numbers", 1, relay.state(2, 0));
        relay.apply(4096, 0, 4096, 0);
        relay.pass(24);
        Shapes.box(relay, 0, 1000, 0, 2000, 5);
        Shapes.box(relay, 1, 999, -5, 1000, 0);
        Shapes.box(relay, 2, 1001, -5, 1002, 5);
        relay.pass(1);
        due.is("at a corner", 1, relay.state(0, 0));
        due.is("at another corner", 1, relay.state(1, 0));
        due.is("beside an edge", 0, relay.state(2, 0));
    }

    private static void picked(String what, ZoneRelay relay, int forward, int reverse, int both) {
        due.is(what + ": FORWARD", forward, relay.state(0, 0));
        due.is(what + ": REVERSE", reverse, relay.state(1, 0));
        due.is(what + ": BOTH", both, relay.state(2, 0));
    }

    /** Three zones that contain everything near, one for each direction. */
    private static ZoneRelay directed() {
        ZoneRelay relay = new ZoneRelay();
        for (int zone = 0; zone < 3; zone++) {
            Shapes.box(relay, zone, -20000, -20000, 20000, 20000);
            relay.zone(zone, 2400, zone);
        }
        return relay;
    }

    private static void promise17Directions() {
        ZoneRelay relay = directed();
        relay.apply(0, 0, 4096, 0);
        relay.pass(24);
        picked("no voltage, no memory", relay, 0, 0, 1);
        relay.network(2, 500, 3000);
        relay.apply(4096, 0, 4096, 0);
        relay.pass(24);
        picked("F above 0", relay, 1, 0, 1);
        relay.apply(-4096, 0, 4096, 0);
        relay.pass(24);
        picked("F below 0", relay, 0, 1, 1);
        relay.network(2, 0, 3000);
        relay.pass(1);
        picked("without resistance of the line F is 0", relay, 0, 0, 1);
        relay.apply(0, 4096, 4096, 0);
        relay.pass(24);
        picked("a voltage ahead of the current", relay, 1, 0, 1);
        relay.apply(0, 4096, -4096, 0);
        relay.pass(24);
        picked("and against it", relay, 0, 1, 1);
        relay.apply(4096, 0, 0, 4096);
        relay.pass(24);
        picked("a current ahead of the voltage", relay, 0, 1, 1);
        relay.network(2, 3000, 0);
        relay.apply(0, 4096, 0, 4096);
        relay.pass(24);
        picked("both turned by a quarter", relay, 1, 0, 1);
        relay.apply(2000, 4096, 20000, 20000);
        relay.pass(24);
        relay.network(2, 0, 0);
        relay.pass(1);
        picked("without a line F is 0", relay, 0, 0, 1);
        relay.network(2, 20000, 20000);
        relay.apply(20000, 20000, 20000, 20000);
        relay.pass(24);
        picked("the greatest numbers", relay, 1, 0, 1);
    }

    private static void promise17TheLeastNumbers() {
        ZoneRelay relay = directed();
        relay.set(ZoneRelay.MINIMUM, 1);
        relay.set(ZoneRelay.MEMORY_LEVEL, 0);
        relay.network(2, 1, 0);
        relay.apply(2, 0, 2, 0);
        relay.pass(24);
        due.is("va", 1, relay.measure(0));
        due.is("ia", 1, relay.measure(2));
        due.is("R of 1 by 1", 1000, relay.measure(8));
        picked("F is 1", relay, 1, 0, 1);
        relay.apply(-2, 0, 2, 0);
        relay.pass(24);
        due.is("va", -1, relay.measure(0));
        picked("F is -1", relay, 0, 1, 1);
    }

    private static void promise17TheMemoryWearsOut() {
        ZoneRelay relay = directed();
        relay.set(ZoneRelay.MEMORY_LEVEL, 4095);
        relay.set(ZoneRelay.MEMORY_HOLD, 30);
        relay.apply(4096, 0, 4096, 0);
        relay.pass(24);
        relay.apply(-2048, 0, 4096, 0);
        relay.pass(30);
        due.is("as old as can be", 30, relay.measure(6));
        due.is("the estimate is against it", -2047, relay.measure(0));
        picked("the memory holds", relay, 1, 0, 1);
        relay.pass(1);
        picked("the memory is too old", relay, 0, 1, 1);
        relay.set(ZoneRelay.MEMORY_HOLD, 1000);
        relay.pass(1);
        picked("a longer hold", relay, 1, 0, 1);
        relay.apply(0, 0, 4096, 0);
        relay.set(ZoneRelay.MEMORY_HOLD, 0);
        relay.pass(24);
        picked("no voltage and no memory", relay, 0, 0, 1);
        relay.network(2, 0, 3000);
        relay.apply(1000, 2000, 4096, 0);
        relay.pass(24);
        picked("the estimate's second number", relay, 1, 0, 1);
        relay.apply(1000, -2000, 4096, 0);
        relay.pass(24);
        picked("and against it", relay, 0, 1, 1);
    }

    private static void promise17Blocks() {
        ZoneRelay relay = swinging();
        for (int zone = 0; zone < 3; zone++) {
            Shapes.box(relay, zone, -20000, -20000, 20000, 20000);
            relay.zone(zone, 2400, ZoneRelay.BOTH);
        }
        relay.set(ZoneRelay.LOAD_ZONES, 5);
        relay.set(ZoneRelay.SWING_ZONES, 2);
        relay.set(ZoneRelay.SWING_TIME, 1);
        relay.pass(1);
        picked("neither load nor swing", relay, 1, 1, 1);
        inner(relay, true);
        relay.pass(1);
        due.is("a swing", 1, relay.measure(11));
        picked("a swing blocks the zone 1 at once", relay, 1, 0, 1);
        relay.set(ZoneRelay.LOAD_FROM, 1000);
        relay.pass(1);
        due.is("load", 1, relay.measure(12));
        picked("load blocks the zones 0 and 2", relay, 0, 0, 0);
        relay.set(ZoneRelay.SWING_ZONES, 5);
        relay.set(ZoneRelay.LOAD_ZONES, 0);
        relay.pass(1);
        picked("a swing blocks the zones 0 and 2", relay, 0, 1, 0);
        relay.clear(ZoneRelay.OUTER);
        relay.pass(1);
        picked("its end frees them at once", relay, 1, 1, 1);
    }

    private static void promise18Tripped() {
        ZoneRelay relay = directed();
        relay.zone(0, 10, ZoneRelay.BOTH);
        relay.zone(1, 10, ZoneRelay.BOTH);
        relay.zone(2, 5, ZoneRelay.BOTH);
        relay.apply(4096, 0, 4096, 0);
        due.is("tripped()", ZoneRelay.NONE, relay.tripped());
        relay.pass(4);
        due.is("tripped()", ZoneRelay.NONE, relay.tripped());
        relay.pass(1);
        due.is("by the zone with the shortest delay", 2, relay.tripped());
        relay.pass(20);
        due.is("no other zone trips it then", 2, relay.tripped());
        due.is("timers go on", 25, relay.state(0, 1));
        relay.clear(2);
        relay.pass(1);
        due.is("it stays tripped", 2, relay.tripped());
        relay.reset();
        Shapes.box(relay, 2, -20000, -20000, 20000, 20000);
        relay.zone(2, 10, ZoneRelay.BOTH);
        relay.pass(9);
        due.is("not yet", ZoneRelay.NONE, relay.tripped());
        relay.pass(1);
        due.is("of some zones the lowest one", 0, relay.tripped());
        relay.zone(0, 2400, ZoneRelay.BOTH);
        relay.reset();
        relay.pass(10);
        due.is("the lowest one whose delay is over", 1, relay.tripped());
    }

    private static void promise19Reset() {
        ZoneRelay relay = directed();
        due.is("reset() when not tripped", ZoneRelay.NONE, relay.reset());
        relay.zone(1, 2, ZoneRelay.BOTH);
        relay.apply(4096, 0, 4096, 0);
        relay.pass(24);
        due.is("reset()", 1, relay.reset());
        due.is("reset() again", ZoneRelay.NONE, relay.reset());
        due.is("tripped()", ZoneRelay.NONE, relay.tripped());
        int events = relay.count(1);
        for (int zone = 0; zone < 3; zone++) {
            due.is("its timer", 0, relay.state(zone, 1));
        }
        due.is("it stays picked up", 1, relay.state(1, 0));
        due.is("all is left", 2, relay.state(1, 2));
        relay.pass(1);
        due.is("its timer begins anew", 1, relay.state(1, 1));
        due.is("without an event", events, relay.count(1));
        relay.pass(1);
        due.is("tripped again", 1, relay.tripped());
        due.is("with an event", events + 1, relay.count(1));
    }

    private static void promise20Event() {
        ZoneRelay relay = new ZoneRelay();
        due.is("event(0, -1)", ZoneRelay.BAD_VALUE, relay.event(0, -1));
        due.is("event(0, 2)", ZoneRelay.BAD_VALUE, relay.event(0, 2));
        due.is("event(-1, 0)", ZoneRelay.NONE, relay.event(-1, 0));
        Shapes.box(relay, 0, 500, -500, 1500, 500);
        relay.apply(4096, 0, 4096, 0);
        relay.pass(24);
        // the estimate of the voltage reaches 1000 in the fourth sample: from then on there is a memory
        due.is("picked up: time", 3, relay.event(0, 0));
        due.is("picked up: kind", 10, relay.event(0, 1));
        due.is("tripped: time", 6, relay.event(1, 0));
        due.is("tripped: kind", 30, relay.event(1, 1));
        due.is("event(2, 0)", ZoneRelay.NONE, relay.event(2, 0));
        relay.clear(0);
        relay.pass(2);
        due.is("dropped: time", 24, relay.event(2, 0));
        due.is("dropped: kind", 20, relay.event(2, 1));
        due.is("how many", 3, relay.count(1));
        due.is("event(greatest int, 1)", ZoneRelay.NONE, relay.event(Integer.MAX_VALUE, 1));
        due.is("event(least int, 1)", ZoneRelay.NONE, relay.event(Integer.MIN_VALUE, 1));
        due.is("event(least int, 2)", ZoneRelay.BAD_VALUE, relay.event(Integer.MIN_VALUE, 2));
    }

    private static void promise20Order() {
        ZoneRelay relay = swinging();
        for (int zone = 0; zone < 3; zone++) {
            relay.zone(zone, 1, ZoneRelay.BOTH);
        }
        Shapes.box(relay, 1, -20000, -20000, 20000, 20000);
        relay.set(ZoneRelay.SWING_TIME, 1);
        relay.set(ZoneRelay.SWING_ZONES, 2);
        relay.pass(1);
        relay.reset();
        inner(relay, true);
        Shapes.box(relay, 0, -20000, -20000, 20000, 20000);
        Shapes.box(relay, 2, -20000, -20000, 20000, 20000);
        relay.pass(1);
        due.holds("a swing, zones, and tripping: " + Shapes.kinds(relay), Shapes.kinds(relay).equals("11 31 40 10 21 12 30"));
        for (int event = 2; event < 7; event++) {
            due.is("all in one sample", 49, relay.event(event, 0));
        }
        relay.reset();
        relay.clear(ZoneRelay.OUTER);
        relay.clear(0);
        relay.pass(1);
        due.holds("its end comes first: " + Shapes.kinds(relay), Shapes.kinds(relay).equals("11 31 40 10 21 12 30 41 20 11 31"));
    }

    private static void promise20TheLatestSixty() {
        ZoneRelay relay = directed();
        relay.apply(0, 0, 4096, 0);
        relay.pass(24);
        due.is("the zone 2", 1, relay.count(1));
        for (int i = 0; i < 59; i++) {
            relay.set(ZoneRelay.MINIMUM, i % 2 == 0 ? 20000 : 1);
            relay.pass(1);
        }
        due.is("sixty", 60, relay.count(1));
        due.is("the first is kept", 12, relay.event(0, 1));
        relay.set(ZoneRelay.MINIMUM, 1);
        relay.pass(1);
        due.is("sixty-one", 61, relay.count(1));
        due.is("the first is kept no more", ZoneRelay.NONE, relay.event(0, 1));
        due.is("its time neither", ZoneRelay.NONE, relay.event(0, 0));
        due.is("the second is", 24, relay.event(1, 0));
        due.is("its kind", 22, relay.event(1, 1));
        due.is("the latest: time", 83, relay.event(60, 0));
        due.is("the latest: kind", 12, relay.event(60, 1));
        due.is("the next is not there", ZoneRelay.NONE, relay.event(61, 0));
        for (int i = 0; i < 100; i++) {
            relay.set(ZoneRelay.MINIMUM, i % 2 == 0 ? 20000 : 1);
            relay.pass(1);
        }
        for (int event = 0; event < 161; event++) {
            due.is("time of " + event, event < 101 ? ZoneRelay.NONE : 23 + event, relay.event(event, 0));
            due.is("kind of " + event, event < 101 ? ZoneRelay.NONE : event % 2 == 0 ? 12 : 22, relay.event(event, 1));
        }
    }
}
