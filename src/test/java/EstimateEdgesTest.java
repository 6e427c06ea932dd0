import java.util.Arrays;

/** Boundary cases of ESTIMATES, and of the steps 1 to 5 of A SAMPLE. */
public final class EstimateEdgesTest {
    private static final Edges edges = new Edges();
    private static final Due due = edges.due;
    private static final long NO_NUMBER = ZoneRelay.GONE + ZoneRelay.NONE;
    private static final int BOTH = ZoneRelay.BOTH;

    public static void main(String[] args) {
        latestSamples();
        wholeSums();
        minimum();
        impedance();
        rampFirst();
        memoryLevel();
        memoryAge();
        noImpedance();
        outerAndInner();
        between();
        swingBeginsAndEnds();
        pointOnEdges();
        loadFrom();
        loadSlope();
        blockedZones();
        directions();
        memoryHold();
        edges.finish("ESTIMATES", "A SAMPLE");
    }

    /** A relay with these estimates. */
    private static ZoneRelay standing(int va, int vb, int ia, int ib) {
        ZoneRelay relay = new ZoneRelay();
        Wave.stand(relay, va, vb, ia, ib);
        due.estimates("standing", relay, va, vb, ia, ib);
        return relay;
    }

    // ---- ESTIMATES

    private static void latestSamples() {
        edges.test("ESTIMATES: samples before the time 0 are 0", () -> {
            ZoneRelay relay = new ZoneRelay();
            relay.apply(20000, 7000, -300, 4000);
            long[] v = new long[24];
            long[] i = new long[24];
            for (int time = 0; time < 24; time++) {
                v[time] = Wave.sample(20000, 7000, time);
                i[time] = Wave.sample(-300, 4000, time);
                relay.pass(1);
                long[] voltage = Wave.estimates(0, v);
                long[] current = Wave.estimates(0, i);
                due.estimates((time + 1) + " samples", relay, voltage[0], voltage[1], current[0], current[1]);
            }
        });
        edges.test("ESTIMATES: the sample 23 back counts, the sample 24 back does not", () -> {
            for (int time = 0; time < 50; time += 7) {
                ZoneRelay relay = new ZoneRelay();
                if (time > 0) {
                    relay.pass(time);
                }
                relay.apply(20000, 20000, -20000, 20000);
                relay.pass(1);
                long[] v = Wave.estimates(time, Wave.sample(20000, 20000, time));
                long[] i = Wave.estimates(time, Wave.sample(-20000, 20000, time));
                due.holds("it can be seen", v[0] != 0 || v[1] != 0);
                relay.apply(0, 0, 0, 0);
                relay.pass(23);
                due.estimates("23 later than " + time, relay, v[0], v[1], i[0], i[1]);
                relay.pass(1);
                due.estimates("24 later than " + time, relay, 0, 0, 0, 0);
            }
        });
        edges.test("ESTIMATES: over the ends of cycles, with another phasor in each sample", () -> {
            ZoneRelay relay = new ZoneRelay();
            long[] v = new long[100];
            long[] i = new long[100];
            for (int time = 0; time < 76; time++) {
                int a = (time * 7919 + 13) % 40001 - 20000;
                int b = (time * 6007 + 4711) % 40001 - 20000;
                v[time] = Wave.sample(a, b, time);
                i[time] = Wave.sample(b, -a, time);
                relay.apply(a, b, b, -a);
                relay.pass(1);
                int from = Math.max(0, time - 23);
                long[] voltage = Wave.estimates(from, Arrays.copyOfRange(v, from, time + 1));
                long[] current = Wave.estimates(from, Arrays.copyOfRange(i, from, time + 1));
                due.estimates("at " + time, relay, voltage[0], voltage[1], current[0], current[1]);
            }
        });
    }

    private static void wholeSums() {
        edges.test("ESTIMATES: the whole sum is divided, not each of its terms", () -> {
            ZoneRelay relay = new ZoneRelay();
            long ofTerms = 0;
            for (int time = 0; time < 24; time++) {
                ofTerms += Wave.estimates(time, Wave.sample(4096, 0, time))[0];
            }
            due.holds("the terms would give less: " + ofTerms, ofTerms < 4095);
            relay.apply(4096, 0, 0, -4096);
            relay.pass(24);
            due.estimates("a cycle", relay, 4095, 0, 0, -4095);
        });
        edges.test("ESTIMATES: truncated toward 0, above 0 and below it", () -> {
            ZoneRelay relay = new ZoneRelay();
            relay.apply(4096, 0, -4096, 0);
            relay.pass(2);
            // (4096 * 4096 + 3956 * 3956) / 49152 = 659.7, and 3956 * -1060 / 49152 = -85.3
            due.estimates("two samples", relay, 659, -85, -659, 85);
        });
        edges.test("ESTIMATES: less than 1 is 0, above 0 and below it", () -> {
            ZoneRelay relay = new ZoneRelay();
            relay.apply(1, -1, -1, 1);
            relay.pass(24);
            due.estimates("a cycle", relay, 0, 0, 0, 0);
            relay.apply(2, -2, -2, 2);
            relay.pass(24);
            due.estimates("a cycle of twice as much", relay, 1, -1, -1, 1);
        });
    }

    private static void impedanceAt(int minimum, int ia, int ib, boolean isThere) {
        ZoneRelay relay = standing(500, 0, ia, ib);
        relay.set(ZoneRelay.MINIMUM, minimum);
        relay.pass(1);
        String what = "(" + ia + ", " + ib + ") with the minimum " + minimum;
        due.is(what, isThere ? 1 : 0, relay.measure(7));
        due.holds(what + ": R", isThere != (relay.measure(8) == NO_NUMBER));
        due.holds(what + ": X", isThere != (relay.measure(9) == NO_NUMBER));
    }

    private static void minimum() {
        edges.test("ESTIMATES: an impedance if D is at least MINIMUM * MINIMUM, at the first MINIMUM of 100", () -> {
            impedanceAt(100, 100, 0, true);
            impedanceAt(100, 99, 0, false);
            impedanceAt(100, -100, 0, true);
            impedanceAt(100, 0, -99, false);
        });
        edges.test("ESTIMATES: just reached by both numbers of the current together", () -> {
            impedanceAt(1000, 600, 800, true);
            impedanceAt(1001, 600, 800, false);
            impedanceAt(1000, 599, 800, false);
            impedanceAt(1000, -600, -800, true);
        });
        edges.test("ESTIMATES: with the least MINIMUM, 1, any current is enough but none", () -> {
            impedanceAt(1, 1, 0, true);
            impedanceAt(1, 0, -1, true);
            impedanceAt(2, 1, 1, false);
            impedanceAt(1, 0, 0, false);
        });
        edges.test("ESTIMATES: with the greatest MINIMUM, 20000", () -> {
            impedanceAt(20000, 12000, 16000, true);
            impedanceAt(20000, 11998, 16000, false);
            impedanceAt(20000, 19996, 0, false);
            impedanceAt(19996, 19996, 0, true);
        });
        edges.test("ESTIMATES: there is no impedance before the first sample, and none of no current", () -> {
            ZoneRelay relay = new ZoneRelay();
            relay.set(ZoneRelay.MINIMUM, 1);
            due.is("before it", 0, relay.measure(7));
            relay.apply(20000, 20000, 0, 0);
            relay.pass(24);
            due.is("of no current", 0, relay.measure(7));
        });
    }

    private static void impedanceIs(long r, long x, int va, int vb, int ia, int ib) {
        ZoneRelay relay = new ZoneRelay();
        relay.set(ZoneRelay.MINIMUM, 1);
        Wave.stand(relay, va, vb, ia, ib);
        String what = "(" + va + ", " + vb + ") by (" + ia + ", " + ib + ")";
        due.is(what + ": R", r, relay.measure(8));
        due.is(what + ": X", x, relay.measure(9));
    }

    private static void impedance() {
        edges.test("ESTIMATES: R and X are told truncated toward 0, above 0 and below it", () -> {
            impedanceIs(333, -333, 1000, -1000, 3000, 0);
            impedanceIs(-333, 333, -1000, 1000, 3000, 0);
            impedanceIs(0, 0, 1, -1, 3000, 0);
            impedanceIs(1, -2, 3, -6, 3000, 0);
            impedanceIs(0, 0, -2, 2, 3000, 0);
        });
        edges.test("ESTIMATES: P = va * ia + vb * ib and Q = vb * ia - va * ib, each part of both signs", () -> {
            impedanceIs(2000, 0, 0, 2000, 0, 1000);
            impedanceIs(-2000, 0, 0, -2000, 0, 1000);
            impedanceIs(0, -2000, 2000, 0, 0, 1000);
            impedanceIs(0, 2000, 2000, 0, 0, -1000);
            impedanceIs(0, 2000, 0, 2000, 1000, 0);
        });
        edges.test("ESTIMATES: the greatest and the least impedance", () -> {
            impedanceIs(19996000, -19996000, 19996, -19996, 1, 0);
            impedanceIs(-19996000, 19996000, 19996, -19996, -1, 0);
            impedanceIs(0, 0, 0, 0, 19996, 0);
            impedanceIs(1000, 0, 19996, 19996, 19996, 19996);
        });
    }

    // ---- A SAMPLE, step 1

    private static void rampFirst() {
        edges.test("A SAMPLE: 1. the sample is taken when the phasors have become those of the ramp", () -> {
            ZoneRelay relay = new ZoneRelay();
            relay.ramp(1, 4096, 0, 8192, 0);
            relay.pass(1);
            due.estimates("the only sample of a ramp", relay, 341, 0, 682, 0);
            ZoneRelay longer = new ZoneRelay();
            longer.ramp(2, 8192, 0, 0, 0);
            longer.pass(1);
            due.estimates("the first of two", longer, 341, 0, 0, 0);
        });
        edges.test("A SAMPLE: 1. the first sample is at the time 0", () -> {
            ZoneRelay relay = new ZoneRelay();
            relay.apply(0, 20000, 20000, 0);
            relay.pass(1);
            // s(0) is 0 and c(0) is 4096
            due.estimates("at the time 0", relay, 0, 0, 1666, 0);
        });
    }

    // ---- step 2

    private static void memoryAt(int level, int va, int vb, boolean isReached) {
        ZoneRelay relay = new ZoneRelay();
        relay.set(ZoneRelay.MEMORY_LEVEL, 20000);
        Wave.stand(relay, va, vb, 0, 0);
        relay.set(ZoneRelay.MEMORY_LEVEL, level);
        relay.pass(1);
        String what = "(" + va + ", " + vb + ") with the level " + level;
        due.is(what + ": age", isReached ? 0 : 25, relay.measure(6));
        due.is(what + ": memory", isReached ? va : 0, relay.measure(4));
        due.is(what + ": memory", isReached ? vb : 0, relay.measure(5));
    }

    private static void memoryLevel() {
        edges.test("A SAMPLE: 2. the memory becomes the estimate at least at MEMORY_LEVEL, at the first level of 1000", () -> {
            memoryAt(1000, 1000, 0, true);
            memoryAt(1000, 999, 0, false);
            memoryAt(1000, 0, -1000, true);
            memoryAt(1000, 0, -999, false);
        });
        edges.test("A SAMPLE: 2. the level is just reached by both numbers together", () -> {
            memoryAt(1000, 600, 800, true);
            memoryAt(1001, 600, 800, false);
            memoryAt(1000, -600, -800, true);
            memoryAt(1000, 599, 800, false);
        });
        edges.test("A SAMPLE: 2. the least MEMORY_LEVEL, 0, is reached by no voltage at all", () -> {
            memoryAt(0, 0, 0, true);
            memoryAt(1, 0, 0, false);
            memoryAt(1, 1, 0, true);
            memoryAt(2, 1, 1, false);
        });
        edges.test("A SAMPLE: 2. the greatest MEMORY_LEVEL, 20000", () -> {
            memoryAt(20000, 12000, 16000, true);
            memoryAt(20000, 11998, 16000, false);
            memoryAt(20000, 19996, 0, false);
        });
    }

    private static void memoryAge() {
        edges.test("A SAMPLE: 2. the memory is (0, 0) with the age 0 at first", () -> {
            ZoneRelay relay = new ZoneRelay();
            due.is("memory", 0, relay.measure(4));
            due.is("memory", 0, relay.measure(5));
            due.is("age", 0, relay.measure(6));
            relay.pass(1);
            due.is("age after a sample without a voltage", 1, relay.measure(6));
        });
        edges.test("A SAMPLE: 2. below the level the memory stays and its age increases by 1", () -> {
            ZoneRelay relay = standing(1000, 0, 0, 0);
            due.is("age", 0, relay.measure(6));
            relay.pass(1);
            due.is("age as long as it is reached", 0, relay.measure(6));
            relay.apply(0, 20, 0, 0);
            for (int age = 1; age <= 3; age++) {
                relay.pass(1);
                due.is("age", age, relay.measure(6));
            }
            relay.pass(5000);
            due.is("age", 5003, relay.measure(6));
            due.is("memory", 1000, relay.measure(4));
            due.is("memory", 0, relay.measure(5));
            relay.set(ZoneRelay.MEMORY_LEVEL, 0);
            relay.pass(1);
            due.is("a new age", 0, relay.measure(6));
            due.is("a new memory", 0, relay.measure(4));
            due.is("a new memory", 19, relay.measure(5));
        });
    }

    // ---- steps 3 and 4

    /** The point is (1000, 0), and OUTER and a zone are around it. */
    private static ZoneRelay inOuter() {
        ZoneRelay relay = standing(1000, 0, 1000, 0);
        Shapes.box(relay, ZoneRelay.OUTER, -2000, -2000, 2000, 2000);
        relay.set(ZoneRelay.SWING_TIME, 3);
        relay.zone(1, 2400, BOTH);
        return relay;
    }

    private static void inner(ZoneRelay relay) {
        Shapes.box(relay, ZoneRelay.INNER, -1500, -1500, 1500, 1500);
    }

    private static void noImpedance() {
        edges.test("A SAMPLE: 3. without an impedance no zone is picked up, BETWEEN is 0, and a swing ends", () -> {
            ZoneRelay relay = inOuter();
            relay.pass(3);
            inner(relay);
            Shapes.box(relay, 1, -2000, -2000, 2000, 2000);
            relay.set(ZoneRelay.MINIMUM, 1000);
            relay.pass(1);
            due.is("just enough current: picked up", 1, relay.state(1, 0));
            due.is("just enough current: BETWEEN", 3, relay.measure(10));
            due.is("just enough current: swing", 1, relay.measure(11));
            relay.set(ZoneRelay.MINIMUM, 1001);
            relay.pass(1);
            due.is("just too little: picked up", 0, relay.state(1, 0));
            due.is("just too little: timer", 0, relay.state(1, 1));
            due.is("just too little: BETWEEN", 0, relay.measure(10));
            due.is("just too little: swing", 0, relay.measure(11));
            due.same("the events", "40 11 41 21", Shapes.kinds(relay));
        });
        edges.test("A SAMPLE: 3. a swing that is not there does not end", () -> {
            ZoneRelay relay = inOuter();
            relay.pass(2);
            due.is("BETWEEN", 2, relay.measure(10));
            relay.set(ZoneRelay.MINIMUM, 1001);
            relay.pass(2);
            due.is("BETWEEN without an impedance", 0, relay.measure(10));
            due.is("events", 0, relay.count(1));
        });
    }

    private static void betweenWith(String what, int want, int edge, int va, int ia) {
        ZoneRelay relay = standing(va, 0, ia, 0);
        Shapes.box(relay, ZoneRelay.OUTER, edge < 0 ? edge : -20000, -20000, edge < 0 ? 20000 : edge, 20000);
        relay.pass(1);
        due.is(what, want, relay.measure(10));
    }

    private static void outerAndInner() {
        edges.test("A SAMPLE: 4. a point on the edge of OUTER is in it, a point just beyond is not", () -> {
            betweenWith("1000 up to 1000", 1, 1000, 1000, 1000);
            betweenWith("1000 up to 999", 0, 999, 1000, 1000);
            betweenWith("1000.5 up to 1001", 1, 1001, 2001, 2000);
            betweenWith("1000.5 up to 1000", 0, 1000, 2001, 2000);
            betweenWith("-1000 down to -1000", 1, -1000, -1000, 1000);
            betweenWith("-1000 down to -999", 0, -999, -1000, 1000);
            betweenWith("-1000.5 down to -1001", 1, -1001, -2001, 2000);
            betweenWith("-1000.5 down to -1000", 0, -1000, -2001, 2000);
        });
        edges.test("A SAMPLE: 4. a point on the edge of INNER is in it, a point just beyond is not", () -> {
            ZoneRelay relay = inOuter();
            Shapes.box(relay, ZoneRelay.INNER, -999, -999, 999, 999);
            relay.pass(1);
            due.is("just beyond", 1, relay.measure(10));
            Shapes.box(relay, ZoneRelay.INNER, 1000, -1, 1001, 0);
            relay.pass(1);
            due.is("on a corner", 1, relay.measure(10));
            Shapes.box(relay, ZoneRelay.INNER, 1001, -1, 1002, 0);
            relay.pass(1);
            due.is("just beyond on the other side", 2, relay.measure(10));
            ZoneRelay half = standing(2001, 0, 2000, 0);
            Shapes.box(half, ZoneRelay.OUTER, -2000, -2000, 2000, 2000);
            Shapes.box(half, ZoneRelay.INNER, -1000, -1000, 1000, 1000);
            half.pass(1);
            due.is("beyond by a half", 1, half.measure(10));
            Shapes.box(half, ZoneRelay.INNER, -1001, -1001, 1001, 1001);
            half.pass(1);
            due.is("within by a half", 1, half.measure(10));
        });
        edges.test("A SAMPLE: 4. without an INNER every point is outside of it, without an OUTER, too", () -> {
            ZoneRelay relay = inOuter();
            relay.pass(2);
            due.is("no INNER", 2, relay.measure(10));
            inner(relay);
            relay.clear(ZoneRelay.OUTER);
            relay.pass(1);
            due.is("no OUTER", 0, relay.measure(10));
            Shapes.corners(relay, ZoneRelay.OUTER, -2000, -2000, -2000, 2000, 2000, 2000, 2000, -2000);
            relay.pass(1);
            due.is("an OUTER that is not sound", 0, relay.measure(10));
        });
    }

    private static void between() {
        edges.test("A SAMPLE: 4. BETWEEN is 0 at first, counts outside of INNER, stays in both, and is 0 outside of OUTER", () -> {
            ZoneRelay relay = inOuter();
            due.is("at first", 0, relay.measure(10));
            relay.pass(2);
            due.is("outside of INNER", 2, relay.measure(10));
            inner(relay);
            relay.pass(2);
            due.is("in both", 2, relay.measure(10));
            relay.clear(ZoneRelay.INNER);
            relay.pass(1);
            due.is("outside of INNER again", 3, relay.measure(10));
            inner(relay);
            relay.clear(ZoneRelay.OUTER);
            relay.pass(1);
            due.is("in INNER alone", 0, relay.measure(10));
        });
        edges.test("A SAMPLE: 4. BETWEEN goes on counting beyond SWING_TIME", () -> {
            ZoneRelay relay = inOuter();
            relay.pass(1500);
            due.is("BETWEEN", 1500, relay.measure(10));
            due.is("no swing outside of INNER", 0, relay.measure(11));
        });
    }

    private static void swingWith(int swingTime, int between, boolean begins) {
        ZoneRelay relay = inOuter();
        relay.set(ZoneRelay.SWING_TIME, swingTime);
        if (between > 0) {
            relay.pass(between);
        }
        inner(relay);
        relay.pass(1);
        String what = between + " of " + swingTime;
        due.is(what + ": BETWEEN", between, relay.measure(10));
        due.is(what + ": swing", begins ? 1 : 0, relay.measure(11));
        due.same(what + ": events", begins ? "40" : "", Shapes.kinds(relay));
    }

    private static void swingBeginsAndEnds() {
        edges.test("A SAMPLE: 4. a swing begins if BETWEEN is at least SWING_TIME", () -> {
            swingWith(3, 2, false);
            swingWith(3, 3, true);
            swingWith(3, 4, true);
        });
        edges.test("A SAMPLE: 4. at the least, the first and the greatest SWING_TIME", () -> {
            swingWith(1, 0, false);
            swingWith(1, 1, true);
            swingWith(24, 23, false);
            swingWith(24, 24, true);
            swingWith(1000, 999, false);
            swingWith(1000, 1000, true);
        });
        edges.test("A SAMPLE: 4. a swing that there is does not begin again, and stays in OUTER", () -> {
            ZoneRelay relay = inOuter();
            relay.pass(3);
            inner(relay);
            relay.pass(2);
            relay.clear(ZoneRelay.INNER);
            relay.pass(2);
            due.is("outside of INNER", 1, relay.measure(11));
            due.is("BETWEEN", 5, relay.measure(10));
            relay.set(ZoneRelay.SWING_TIME, 1000);
            inner(relay);
            relay.pass(1);
            due.is("with a longer SWING_TIME", 1, relay.measure(11));
            due.same("events", "40", Shapes.kinds(relay));
        });
        edges.test("A SAMPLE: 4. a swing ends outside of OUTER, and another one begins from 0", () -> {
            ZoneRelay relay = inOuter();
            relay.pass(3);
            inner(relay);
            relay.pass(1);
            Shapes.box(relay, ZoneRelay.OUTER, -999, -999, 999, 999);
            relay.pass(1);
            due.is("swing", 0, relay.measure(11));
            due.is("BETWEEN", 0, relay.measure(10));
            Shapes.box(relay, ZoneRelay.OUTER, -2000, -2000, 2000, 2000);
            relay.clear(ZoneRelay.INNER);
            relay.pass(2);
            inner(relay);
            relay.pass(1);
            due.is("after 2 of 3", 0, relay.measure(11));
            relay.clear(ZoneRelay.INNER);
            relay.pass(1);
            inner(relay);
            relay.pass(1);
            due.is("after 3 of 3", 1, relay.measure(11));
            due.same("events", "40 41 40", Shapes.kinds(relay));
        });
    }

    // ---- step 5

    private static void pickedIn(String what, int want, int left, int bottom, int right, int top, int va, int vb, int ia) {
        for (int zone = 0; zone < 3; zone++) {
            ZoneRelay relay = standing(va, vb, ia, 0);
            relay.zone(zone, 2400, BOTH);
            Shapes.box(relay, zone, left, bottom, right, top);
            relay.pass(1);
            due.is(what + ", zone " + zone, want, relay.state(zone, 0));
        }
    }

    private static void pointOnEdges() {
        edges.test("A SAMPLE: 5. a zone is picked up by a point on its edges and corners", () -> {
            pickedIn("left edge", 1, 1000, -5, 1010, 5, 1000, 0, 1000);
            pickedIn("right edge", 1, 990, -5, 1000, 5, 1000, 0, 1000);
            pickedIn("lower edge", 1, 990, 0, 1010, 5, 1000, 0, 1000);
            pickedIn("upper edge", 1, 990, -5, 1010, 0, 1000, 0, 1000);
            pickedIn("corner", 1, 1000, 0, 1010, 5, 1000, 0, 1000);
            pickedIn("left of it", 0, 1001, -5, 1010, 5, 1000, 0, 1000);
            pickedIn("right of it", 0, 990, -5, 999, 5, 1000, 0, 1000);
            pickedIn("below it", 0, 990, 1, 1010, 5, 1000, 0, 1000);
            pickedIn("above it", 0, 990, -5, 1010, -1, 1000, 0, 1000);
        });
        edges.test("A SAMPLE: 5. a zone is compared with the point exactly, not rounded", () -> {
            // R = X = 333.33, then R = X = -333.33
            pickedIn("from 333 to 334", 1, 333, 333, 334, 334, 1000, 1000, 3000);
            pickedIn("up to 333 by R", 0, 0, 0, 333, 1000, 1000, 1000, 3000);
            pickedIn("up to 333 by X", 0, 0, 0, 1000, 333, 1000, 1000, 3000);
            pickedIn("from 334 by R", 0, 334, 0, 1000, 1000, 1000, 1000, 3000);
            pickedIn("from 334 by X", 0, 0, 334, 1000, 1000, 1000, 1000, 3000);
            pickedIn("from -334 to -333", 1, -334, -334, -333, -333, -1000, -1000, 3000);
            pickedIn("from -333 by R", 0, -333, -1000, 0, 0, -1000, -1000, 3000);
            pickedIn("from -333 by X", 0, -1000, -333, 0, 0, -1000, -1000, 3000);
            pickedIn("up to -334 by R", 0, -1000, -1000, -334, 0, -1000, -1000, 3000);
            pickedIn("up to -334 by X", 0, -1000, -1000, 0, -334, -1000, -1000, 3000);
        });
        edges.test("A SAMPLE: 5. a zone without a sound polygon is not picked up", () -> {
            ZoneRelay relay = standing(1000, 0, 1000, 0);
            relay.zone(0, 1, BOTH);
            relay.pass(1);
            due.is("no corners", 0, relay.state(0, 0));
            Shapes.corners(relay, 0, -2000, -2000, -2000, 2000, 2000, 2000, 2000, -2000);
            relay.pass(1);
            due.is("corners to the right", 0, relay.state(0, 0));
        });
        edges.test("A SAMPLE: 5. the greatest zone and the farthest points", () -> {
            ZoneRelay relay = new ZoneRelay();
            relay.set(ZoneRelay.MINIMUM, 1);
            relay.zone(0, 2400, BOTH);
            Wave.stand(relay, 19996, 19996, 1, 0);
            Shapes.box(relay, 0, -20000, -20000, 20000, 20000);
            relay.pass(1);
            due.is("far above it", 0, relay.state(0, 0));
            Wave.stand(relay, -19996, -19996, 1, 0);
            due.is("far below it", 0, relay.state(0, 0));
            Wave.stand(relay, 20, -20, 1, 0);
            due.is("on its corner", 1, relay.state(0, 0));
            Wave.stand(relay, 19996, 19996, 19996, 19996);
            due.is("within it, with the greatest numbers", 1, relay.state(0, 0));
        });
    }

    private static void inLoad(int want, int from, int slope, int va, int vb, int ia) {
        ZoneRelay relay = standing(va, vb, ia, 0);
        relay.set(ZoneRelay.LOAD_FROM, from);
        relay.set(ZoneRelay.LOAD_SLOPE, slope);
        relay.pass(1);
        due.is("(" + va + ", " + vb + ") by " + ia + " from " + from + " with the slope " + slope, want, relay.measure(12));
    }

    private static void loadFrom() {
        edges.test("A SAMPLE: 5. in the load area if |R| is at least LOAD_FROM", () -> {
            inLoad(1, 1000, 500, 1000, 0, 1000);
            inLoad(0, 1001, 500, 1000, 0, 1000);
            inLoad(1, 1000, 500, -1000, 0, 1000);
            inLoad(0, 1001, 500, -1000, 0, 1000);
            inLoad(1, 1000, 500, 2001, 0, 2000);
            inLoad(0, 1001, 500, 2001, 0, 2000);
            inLoad(0, 1001, 500, -2001, 0, 2000);
        });
        edges.test("A SAMPLE: 5. with the least and the greatest LOAD_FROM", () -> {
            inLoad(1, 0, 0, 0, 0, 1000);
            inLoad(0, 1, 0, 0, 0, 1000);
            inLoad(1, 20000, 0, 10000, 0, 500);
            inLoad(0, 20000, 0, 10000, 0, 501);
        });
        edges.test("A SAMPLE: 5. the greatest point is in the load area", () -> {
            ZoneRelay relay = new ZoneRelay();
            relay.set(ZoneRelay.MINIMUM, 1);
            relay.set(ZoneRelay.LOAD_SLOPE, 1000);
            Wave.stand(relay, 19996, -19996, 1, 0);
            due.is("19996000 and as much", 1, relay.measure(12));
            relay.set(ZoneRelay.LOAD_SLOPE, 999);
            relay.pass(1);
            due.is("a bit too steep", 0, relay.measure(12));
        });
    }

    private static void loadSlope() {
        edges.test("A SAMPLE: 5. in the load area if |X| * 1000 is at most LOAD_SLOPE * |R|, on each side", () -> {
            for (int right = -1; right <= 1; right += 2) {
                for (int up = -1; up <= 1; up += 2) {
                    inLoad(1, 0, 1000, right * 1000, up * 1000, 1000);
                    inLoad(0, 0, 999, right * 1000, up * 1000, 1000);
                    inLoad(1, 0, 500, right * 2000, up * 1000, 1000);
                    inLoad(0, 0, 499, right * 2000, up * 1000, 1000);
                }
            }
        });
        edges.test("A SAMPLE: 5. the slope is compared exactly, not with a rounded point", () -> {
            // R = 1000 and X = 333.33
            inLoad(0, 0, 333, 3000, 1000, 3000);
            inLoad(1, 0, 334, 3000, 1000, 3000);
            inLoad(0, 0, 333, -3000, -1000, 3000);
            // R = 333.33 and X = 0.33: the slope is 1
            inLoad(1, 0, 1, 1000, 1, 3000);
            inLoad(0, 0, 0, 1000, 1, 3000);
        });
        edges.test("A SAMPLE: 5. with the least and the greatest LOAD_SLOPE", () -> {
            inLoad(1, 1000, 0, 1000, 0, 1000);
            inLoad(0, 1000, 0, 1000, 1, 1000);
            inLoad(1, 0, 10000, 100, 1000, 100);
            inLoad(0, 0, 10000, 100, 1001, 100);
            inLoad(0, 0, 10000, 0, 1000, 1000);
        });
    }

    private static void blockedZones() {
        edges.test("A SAMPLE: 5. a load blocks just the zones of LOAD_ZONES, from none to all", () -> {
            for (int zones = 0; zones <= 7; zones++) {
                ZoneRelay relay = zonesAround();
                relay.set(ZoneRelay.LOAD_FROM, 1000);
                relay.set(ZoneRelay.LOAD_ZONES, zones);
                relay.set(ZoneRelay.SWING_ZONES, 7);
                picksUp(relay, "LOAD_ZONES " + zones + " in the load area", 7 & ~zones);
                relay.set(ZoneRelay.LOAD_FROM, 1001);
                picksUp(relay, "LOAD_ZONES " + zones + " beside it", 7);
            }
        });
        edges.test("A SAMPLE: 5. a swing blocks just the zones of SWING_ZONES, from none to all", () -> {
            for (int zones = 0; zones <= 7; zones++) {
                ZoneRelay relay = zonesAround();
                relay.set(ZoneRelay.SWING_TIME, 2);
                relay.set(ZoneRelay.SWING_ZONES, zones);
                relay.set(ZoneRelay.LOAD_ZONES, 7);
                Shapes.box(relay, ZoneRelay.OUTER, -2000, -2000, 2000, 2000);
                relay.pass(1);
                picksUp(relay, "SWING_ZONES " + zones + " before a swing", 7);
                inner(relay);
                picksUp(relay, "SWING_ZONES " + zones + " in the first sample of a swing", 7 & ~zones);
                relay.clear(ZoneRelay.OUTER);
                picksUp(relay, "SWING_ZONES " + zones + " in the sample that ends it", 7);
            }
        });
    }

    /** The point is (1000, 0), and three zones are around it. */
    private static ZoneRelay zonesAround() {
        ZoneRelay relay = standing(1000, 0, 1000, 0);
        for (int zone = 0; zone < 3; zone++) {
            relay.zone(zone, 2400, BOTH);
            Shapes.box(relay, zone, -20000, -20000, 20000, 20000);
        }
        return relay;
    }

    /** The next sample picks up this set of zones. */
    private static void picksUp(ZoneRelay relay, String what, int zones) {
        relay.pass(1);
        for (int zone = 0; zone < 3; zone++) {
            due.is(what + ": zone " + zone, zones >> zone & 1, relay.state(zone, 0));
        }
    }

    /** Three zones around everything near, the zone 0 FORWARD, 1 REVERSE, 2 BOTH; the memory is always the estimate. */
    private static ZoneRelay directed(int rl, int xl) {
        ZoneRelay relay = new ZoneRelay();
        for (int zone = 0; zone < 3; zone++) {
            Shapes.box(relay, zone, -20000, -20000, 20000, 20000);
            relay.zone(zone, 2400, zone);
        }
        relay.set(ZoneRelay.MINIMUM, 1);
        relay.set(ZoneRelay.MEMORY_LEVEL, 0);
        relay.network(2, rl, xl);
        return relay;
    }

    /** Of the line (rl, xl) and these estimates F has this sign: 1 for FORWARD, -1 for REVERSE, 0 for neither. */
    private static void signOfF(int sign, int rl, int xl, int va, int vb, int ia, int ib) {
        ZoneRelay relay = directed(rl, xl);
        Wave.stand(relay, va, vb, ia, ib);
        String what = "(" + va + ", " + vb + ") by (" + ia + ", " + ib + ") on (" + rl + ", " + xl + ")";
        due.is(what + ": FORWARD", sign > 0 ? 1 : 0, relay.state(0, 0));
        due.is(what + ": REVERSE", sign < 0 ? 1 : 0, relay.state(1, 0));
        due.is(what + ": BOTH", 1, relay.state(2, 0));
    }

    private static void directions() {
        edges.test("A SAMPLE: 5. FORWARD fits if F is greater than 0, REVERSE if it is less, if only by 1", () -> {
            signOfF(1, 1, 0, 1, 0, 1, 0);
            signOfF(-1, 1, 0, -1, 0, 1, 0);
            signOfF(1, 1, 1, 2, -1, 1, 0);
            signOfF(-1, 1, 1, 1, -2, 1, 0);
            signOfF(1, 0, 1, 0, 1, 1, 0);
            signOfF(-1, 0, 1, 1, 0, 0, 1);
        });
        edges.test("A SAMPLE: 5. if F is 0 only BOTH fits", () -> {
            signOfF(0, 1, 1, 1, -1, 1, 0);
            signOfF(0, 500, 3000, 0, 0, 1000, 0);
            signOfF(0, 0, 0, 1000, 1000, 1000, 0);
            signOfF(0, 0, 3000, 1000, 0, 1000, 0);
            signOfF(0, 500, 0, 0, 1000, 1000, 0);
        });
        edges.test("A SAMPLE: 5. F of the greatest numbers", () -> {
            signOfF(1, 20000, 20000, 19996, 19996, 19996, 19996);
            signOfF(-1, 20000, 20000, -19996, -19996, 19996, 19996);
            signOfF(1, 20000, 20000, 19996, 19996, 19996, -19996);
        });
    }

    private static void directionIs(ZoneRelay relay, String what, int forward, int reverse) {
        due.is(what + ": FORWARD", forward, relay.state(0, 0));
        due.is(what + ": REVERSE", reverse, relay.state(1, 0));
        due.is(what + ": BOTH", 1, relay.state(2, 0));
    }

    private static void memoryHold() {
        edges.test("A SAMPLE: 5. the memory polarises if its age is at most MEMORY_HOLD, otherwise the estimate", () -> {
            for (int hold : new int[] {24, 48, 999, 1000}) {
                ZoneRelay relay = directed(500, 3000);
                relay.set(ZoneRelay.MEMORY_LEVEL, 1000);
                relay.set(ZoneRelay.MEMORY_HOLD, hold);
                Wave.stand(relay, 1000, 0, 1000, 0);
                relay.apply(-500, 0, 1001, 0);
                relay.pass(hold);
                due.is("age", hold, relay.measure(6));
                directionIs(relay, "the memory at the age " + hold, 1, 0);
                relay.pass(1);
                directionIs(relay, "the estimate at the age " + (hold + 1), 0, 1);
            }
        });
        edges.test("A SAMPLE: 5. the first MEMORY_HOLD is 48 samples", () -> {
            ZoneRelay relay = directed(500, 3000);
            relay.set(ZoneRelay.MEMORY_LEVEL, 1000);
            Wave.stand(relay, 1000, 0, 1000, 0);
            relay.apply(-500, 0, 1001, 0);
            relay.pass(48);
            directionIs(relay, "at the age 48", 1, 0);
            relay.pass(1);
            directionIs(relay, "at the age 49", 0, 1);
        });
        edges.test("A SAMPLE: 5. with the least MEMORY_HOLD, 0, only a memory of this sample polarises", () -> {
            ZoneRelay relay = directed(500, 3000);
            relay.set(ZoneRelay.MEMORY_LEVEL, 1000);
            relay.set(ZoneRelay.MEMORY_HOLD, 1);
            Wave.stand(relay, 1000, 0, 1000, 0);
            directionIs(relay, "at the age 0", 1, 0);
            relay.set(ZoneRelay.MEMORY_HOLD, 1000);
            relay.apply(-999, 0, 1001, 0);
            relay.pass(24);
            directionIs(relay, "a memory at the age 24", 1, 0);
            relay.set(ZoneRelay.MEMORY_HOLD, 0);
            relay.pass(1);
            directionIs(relay, "none at the age 25", 0, 1);
            Wave.stand(relay, 1000, 0, 1000, 0);
            relay.set(ZoneRelay.MEMORY_LEVEL, 1001);
            relay.pass(1);
            due.is("age", 1, relay.measure(6));
            directionIs(relay, "an estimate like the memory", 1, 0);
        });
        edges.test("A SAMPLE: 5. the memory (0, 0) of the beginning holds as long, and F is 0", () -> {
            ZoneRelay relay = directed(500, 3000);
            relay.set(ZoneRelay.MEMORY_LEVEL, 1000);
            relay.apply(501, 0, 1001, 0);
            relay.pass(48);
            due.is("age", 48, relay.measure(6));
            directionIs(relay, "at the age 48", 0, 0);
            relay.pass(1);
            directionIs(relay, "at the age 49", 1, 0);
        });
    }
}
