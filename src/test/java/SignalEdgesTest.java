/** Boundary cases of SIGNALS, of THE NETWORK, and of the promises 9 to 14. */
public final class SignalEdgesTest {
    private static final Edges edges = new Edges();
    private static final Due due = edges.due;
    private static final long BAD_NUMBER = ZoneRelay.GONE + ZoneRelay.BAD_VALUE;

    public static void main(String[] args) {
        samples();
        ramps();
        endsOfRamps();
        networkAtFirst();
        places();
        truncatedPhasors();
        limits();
        apply();
        ramp();
        network();
        fault();
        healthy();
        phasor();
        edges.finish("SIGNALS", "THE NETWORK", "9", "10", "11", "12", "13", "14");
    }

    // ---- SIGNALS

    private static void samples() {
        edges.test("SIGNALS: c(t % 24) and s(t % 24), over more than three cycles", () -> {
            for (int time = 0; time <= 76; time++) {
                ZoneRelay relay = new ZoneRelay();
                if (time > 0) {
                    relay.pass(time);
                }
                relay.apply(20000, -3000, 40, 19999);
                relay.pass(1);
                long[] v = Wave.estimates(time, Wave.sample(20000, -3000, time));
                long[] i = Wave.estimates(time, Wave.sample(40, 19999, time));
                due.estimates("the sample at " + time, relay, v[0], v[1], i[0], i[1]);
            }
        });
        edges.test("SIGNALS: c(6) and c(18) are 0, and so are s(0) and s(12)", () -> {
            for (int time : new int[] {6, 18, 0, 12}) {
                boolean isCosine = time % 12 == 6;
                ZoneRelay relay = new ZoneRelay();
                if (time > 0) {
                    relay.pass(time);
                }
                relay.apply(isCosine ? 20000 : 0, isCosine ? 0 : 20000, 0, 0);
                relay.pass(1);
                due.estimates("the sample at " + time, relay, 0, 0, 0, 0);
            }
        });
        edges.test("SIGNALS: a sample is truncated toward 0, above 0 and below it", () -> {
            ZoneRelay relay = new ZoneRelay();
            // Rounded down on either side, vb would be 3999 or -3999.
            relay.apply(3000, 4000, -3000, -4000);
            relay.pass(24);
            due.estimates("a cycle", relay, 2999, 3998, -2999, -3998);
        });
        edges.test("SIGNALS: both phasors are (0, 0) at first", () -> {
            ZoneRelay relay = new ZoneRelay();
            due.phasors("at first", relay, 0, 0, 0, 0);
            relay.pass(30);
            due.estimates("in samples", relay, 0, 0, 0, 0);
        });
        edges.test("SIGNALS: samples of the least and the greatest phasors", () -> {
            ZoneRelay relay = new ZoneRelay();
            relay.apply(-20000, 20000, 20000, -20000);
            relay.pass(24);
            due.estimates("a cycle", relay, -19996, 19996, 19996, -19996);
        });
    }

    private static void ramps() {
        edges.test("SIGNALS: a ramp is truncated toward 0, upward and downward", () -> {
            ZoneRelay relay = new ZoneRelay();
            relay.apply(0, 0, -5, 5);
            relay.ramp(3, -10, 10, 5, -5);
            relay.pass(1);
            due.phasors("1 of 3", relay, -3, 3, -2, 2);
            relay.pass(1);
            due.phasors("2 of 3", relay, -6, 6, 1, -1);
            relay.pass(1);
            due.phasors("3 of 3", relay, -10, 10, 5, -5);
        });
        edges.test("SIGNALS: a ramp of one sample is at its target with the first", () -> {
            ZoneRelay relay = new ZoneRelay();
            relay.ramp(1, 4096, -7, 20000, -20000);
            due.phasors("before it", relay, 0, 0, 0, 0);
            due.is("left", 1, relay.phasor(4));
            relay.pass(1);
            due.phasors("with it", relay, 4096, -7, 20000, -20000);
            due.is("left then", 0, relay.phasor(4));
        });
        edges.test("SIGNALS: the greatest ramp, for its i-th sample from 1 to 2400", () -> {
            ZoneRelay relay = new ZoneRelay();
            relay.apply(-20000, 20000, -20000, 0);
            relay.ramp(2400, 20000, -20000, -20000, 1);
            relay.pass(1);
            due.phasors("the first", relay, -19984, 19984, -20000, 0);
            relay.pass(1199);
            due.phasors("the middle", relay, 0, 0, -20000, 0);
            relay.pass(1199);
            due.phasors("the last but one", relay, 19983, -19983, -20000, 0);
            due.is("left", 1, relay.phasor(4));
            relay.pass(1);
            due.phasors("the last", relay, 20000, -20000, -20000, 1);
            due.is("left then", 0, relay.phasor(4));
        });
        edges.test("SIGNALS: after its last sample a ramp has none left, and the phasors stay", () -> {
            ZoneRelay relay = new ZoneRelay();
            relay.ramp(2, 10, 20, 30, 40);
            relay.pass(2);
            due.phasors("with its last", relay, 10, 20, 30, 40);
            relay.pass(1);
            due.phasors("one after it", relay, 10, 20, 30, 40);
            due.is("left", 0, relay.phasor(4));
            relay.pass(5000);
            due.phasors("long after it", relay, 10, 20, 30, 40);
            due.is("left", 0, relay.phasor(4));
        });
        edges.test("SIGNALS: a ramp leads from the phasors that there were at its beginning, though on a ramp", () -> {
            ZoneRelay relay = new ZoneRelay();
            relay.ramp(4, 100, -100, 0, 8);
            relay.pass(3);
            relay.ramp(2, 5, 5, 5, 5);
            due.phasors("at its beginning", relay, 75, -75, 0, 6);
            due.is("left", 2, relay.phasor(4));
            relay.pass(1);
            due.phasors("1 of 2", relay, 40, -35, 2, 6);
            relay.pass(1);
            due.phasors("2 of 2", relay, 5, 5, 5, 5);
        });
    }

    private static ZoneRelay onARamp() {
        ZoneRelay relay = new ZoneRelay();
        relay.ramp(10, 1000, 2000, 3000, 4000);
        relay.pass(3);
        return relay;
    }

    private static void endsARamp(String name, Edges.Call call) {
        edges.test("SIGNALS: a call that sets phasors ends a ramp: " + name, () -> {
            ZoneRelay relay = onARamp();
            due.is("the call", 3, call.on(relay));
            due.is("left", 0, relay.phasor(4));
            long[] before = {relay.phasor(0), relay.phasor(1), relay.phasor(2), relay.phasor(3)};
            relay.pass(1);
            due.phasors("a sample later", relay, before[0], before[1], before[2], before[3]);
            due.is("left then", 0, relay.phasor(4));
        });
    }

    private static void endsOfRamps() {
        endsARamp("apply", relay -> relay.apply(5, 6, 7, 8));
        endsARamp("apply of the phasors that there are", relay -> relay.apply(300, 600, 900, 1200));
        endsARamp("fault", relay -> relay.fault(500, 10));
        endsARamp("healthy", relay -> relay.healthy());
        edges.test("SIGNALS: a call that sets no phasors leaves a ramp", () -> {
            ZoneRelay relay = onARamp();
            relay.network(0, 5, 0);
            relay.network(1, 5, 5);
            relay.set(ZoneRelay.MINIMUM, 5);
            relay.zone(0, 5, 1);
            relay.reset();
            relay.covers(100, 100);
            relay.reach(0, 100);
            relay.test(100, 100, 20, 0);
            relay.forecast(20);
            relay.save(0);
            due.is("left", 7, relay.phasor(4));
            relay.pass(1);
            due.phasors("4 of 10", relay, 400, 800, 1200, 1600);
        });
    }

    // ---- THE NETWORK

    private static void networkAtFirst() {
        edges.test("THE NETWORK: at first E is 10000, and the impedances (100, 1000), (500, 3000) and (20000, 5000)", () -> {
            ZoneRelay relay = new ZoneRelay();
            int[] first = {10000, 100, 1000, 500, 3000, 20000, 5000};
            for (int i = 0; i < 7; i++) {
                due.is("count(" + (3 + i) + ")", first[i], relay.count(3 + i));
            }
            due.is("part 0", 10000, relay.network(0, 1, 0));
            due.is("part 1", 100, relay.network(1, 1, 0));
            due.is("part 2", 500, relay.network(2, 1, 0));
            due.is("part 3", 20000, relay.network(3, 1, 0));
        });
    }

    /** A network without a source impedance: the current is 1000 * E / R or X, and the voltage E. */
    private static ZoneRelay bare(int e, int rl, int xl) {
        ZoneRelay relay = new ZoneRelay();
        relay.network(0, e, 0);
        relay.network(1, 0, 0);
        relay.network(2, rl, xl);
        return relay;
    }

    private static void places() {
        edges.test("THE NETWORK: the place 0 has nothing of the line, the place 1000 all of it", () -> {
            ZoneRelay relay = bare(10000, 2000, 0);
            relay.fault(0, 4000);
            due.phasors("place 0", relay, 10000, 0, 2500, 0);
            relay.fault(1000, 4000);
            due.phasors("place 1000", relay, 10000, 0, 1666, 0);
            relay.fault(1000, 0);
            due.phasors("place 1000, no resistance", relay, 10000, 0, 5000, 0);
            relay.network(2, 0, 2000);
            relay.fault(1000, 0);
            due.phasors("place 1000, a reactance", relay, 10000, 0, 0, -5000);
            due.is("place 0, nothing at all", ZoneRelay.NOT_POSSIBLE, relay.fault(0, 0));
        });
        edges.test("THE NETWORK: rl * p / 1000 is truncated", () -> {
            ZoneRelay relay = bare(20000, 19999, 0);
            for (int place = 51; place <= 1000; place += 73) {
                relay.fault(place, 0);
                due.phasors("place " + place, relay, 20000, 0, 20000000 / (19999 * place / 1000), 0);
            }
            relay.network(2, 1, 0);
            due.is("999 / 1000", ZoneRelay.NOT_POSSIBLE, relay.fault(999, 0));
            due.is("1000 / 1000", 0, relay.fault(1000, 0));
        });
        edges.test("THE NETWORK: xl * p / 1000 is truncated", () -> {
            ZoneRelay relay = bare(20000, 0, 19999);
            for (int place = 51; place <= 1000; place += 73) {
                relay.fault(place, 0);
                due.phasors("place " + place, relay, 20000, 0, 0, -20000000 / (19999 * place / 1000));
            }
            relay.network(2, 0, 1);
            due.is("999 / 1000", ZoneRelay.NOT_POSSIBLE, relay.fault(999, 0));
            due.is("1000 / 1000", 0, relay.fault(1000, 0));
        });
        edges.test("THE NETWORK: the resistance of a fault is from 0 to 20000, whole", () -> {
            ZoneRelay relay = bare(20000, 0, 0);
            relay.fault(0, 20000);
            due.phasors("20000", relay, 20000, 0, 1000, 0);
            relay.fault(1000, 19999);
            due.phasors("19999", relay, 20000, 0, 1000, 0);
            relay.fault(0, 10001);
            due.phasors("10001", relay, 20000, 0, 1999, 0);
        });
    }

    private static void truncatedPhasors() {
        edges.test("THE NETWORK: the current is truncated toward 0, above 0 and below it", () -> {
            ZoneRelay relay = bare(1, 0, 3);
            relay.fault(1000, 0);
            due.phasors("X = 3", relay, 1, 0, 0, -333);
            relay.fault(0, 3);
            due.phasors("R = 3", relay, 1, 0, 333, 0);
            relay.network(2, 0, 2);
            relay.fault(1000, 1);
            due.phasors("R = 1, X = 2", relay, 1, 0, 200, -400);
            relay.network(0, 2, 0);
            relay.network(2, 0, 20000);
            relay.fault(1000, 3);
            due.phasors("R = 3, X = 20000: no whole ampere is left", relay, 2, 0, 0, 0);
        });
        edges.test("THE NETWORK: the voltage's second number is truncated toward 0, above 0 and below it", () -> {
            ZoneRelay relay = bare(1, 0, 1);
            relay.network(1, 1, 0);
            relay.fault(1000, 0);
            // R = X = 1, so the current is (500, -500), and 500 / 1000 of a volt is none
            due.phasors("half a volt above 0", relay, 1, 0, 500, -500);
            relay.network(1, 0, 1);
            relay.network(2, 0, 0);
            relay.fault(0, 1);
            due.phasors("half a volt below 0", relay, 1, 0, 500, -500);
            relay.network(0, 3, 0);
            relay.fault(0, 1);
            due.phasors("one and a half below 0", relay, 2, -1, 1500, -1500);
            relay.network(1, 1, 0);
            relay.network(2, 0, 1);
            relay.fault(1000, 0);
            due.phasors("one and a half above 0", relay, 2, 1, 1500, -1500);
        });
        edges.test("THE NETWORK: of the voltage the whole sum is divided, not each of its products", () -> {
            ZoneRelay relay = bare(3, 0, 0);
            relay.network(1, 1, 2);
            relay.fault(0, 3);
            // R = 4 and X = 2: 3 - (600 * 1 + 300 * 2) / 1000, and -(600 * 2 - 300 * 1) / 1000
            due.phasors("1200 / 1000 and 900 / 1000", relay, 2, 0, 600, -300);
        });
        edges.test("THE NETWORK: the greatest voltage and impedances", () -> {
            ZoneRelay relay = new ZoneRelay();
            relay.network(0, 20000, 0);
            relay.network(1, 20000, 20000);
            relay.network(2, 20000, 20000);
            relay.network(3, 20000, 20000);
            relay.healthy();
            // R = X = 60000: 1.2e12 / 7.2e9 = 166
            due.phasors("healthy", relay, 13360, 0, 166, -166);
            relay.fault(1000, 20000);
            // R = 60000, X = 40000: D = 5.2e9, and 1.2e12 / D = 230, 8e11 / D = 153
            due.phasors("fault", relay, 12340, -1540, 230, -153);
        });
    }

    private static void limits() {
        edges.test("THE NETWORK: a current is limited to 20000", () -> {
            ZoneRelay relay = bare(20000, 0, 0);
            relay.fault(0, 1000);
            due.is("just 20000", 20000, relay.phasor(2));
            relay.fault(0, 1001);
            due.is("less", 19980, relay.phasor(2));
            relay.fault(0, 999);
            due.is("20020 is limited", 20000, relay.phasor(2));
            relay.fault(0, 1);
            due.is("20000000 is limited", 20000, relay.phasor(2));
            due.phasors("nothing else is", relay, 20000, 0, 20000, 0);
        });
        edges.test("THE NETWORK: a current is limited to -20000", () -> {
            ZoneRelay relay = bare(20000, 0, 1000);
            relay.fault(1000, 0);
            due.is("just -20000", -20000, relay.phasor(3));
            relay.network(2, 0, 1001);
            relay.fault(1000, 0);
            due.is("less", -19980, relay.phasor(3));
            relay.network(2, 0, 999);
            relay.fault(1000, 0);
            due.is("-20020 is limited", -20000, relay.phasor(3));
            relay.network(2, 0, 1);
            relay.fault(1000, 0);
            due.phasors("nothing else is", relay, 20000, 0, 0, -20000);
        });
        edges.test("THE NETWORK: the voltage is computed from the current before it is limited", () -> {
            ZoneRelay relay = bare(20000, 0, 0);
            relay.network(1, 999, 0);
            relay.fault(0, 0);
            // 20000 - 20020 * 999 / 1000; of 20000 amperes 20 volts would be left
            due.phasors("a resistance", relay, 1, 0, 20000, 0);
            relay.network(1, 0, 999);
            relay.fault(0, 0);
            due.phasors("a reactance", relay, 1, 0, 0, -20000);
            relay.network(1, 100, 0);
            relay.network(2, 0, 100);
            relay.fault(1000, 0);
            // the current is (100000, -100000): of each number 10000 volts
            due.phasors("both", relay, 10000, 10000, 20000, -20000);
            relay.network(1, 0, 100);
            relay.fault(0, 100);
            due.phasors("the other way", relay, 10000, -10000, 20000, -20000);
        });
        edges.test("THE NETWORK: voltages reach 20000 and 0, and go no farther", () -> {
            ZoneRelay relay = bare(20000, 0, 0);
            relay.fault(0, 20000);
            due.is("all of E", 20000, relay.phasor(0));
            relay.network(1, 0, 1);
            relay.fault(0, 0);
            due.is("nothing of E", 0, relay.phasor(0));
        });
    }

    // ---- promises

    private static void apply() {
        edges.range("9: va is -20000 to 20000, else BAD_VALUE", ZoneRelay.BAD_VALUE, -20000, 20000, (relay, n) -> relay.apply(n, 1, 2, 3));
        edges.range("9: vb is -20000 to 20000, else BAD_VALUE", ZoneRelay.BAD_VALUE, -20000, 20000, (relay, n) -> relay.apply(1, n, 2, 3));
        edges.range("9: ia is -20000 to 20000, else BAD_VALUE", ZoneRelay.BAD_VALUE, -20000, 20000, (relay, n) -> relay.apply(1, 2, n, 3));
        edges.range("9: ib is -20000 to 20000, else BAD_VALUE", ZoneRelay.BAD_VALUE, -20000, 20000, (relay, n) -> relay.apply(1, 2, 3, n));
        edges.test("9: the least and the greatest phasors stand as they are", () -> {
            ZoneRelay relay = new ZoneRelay();
            due.is("at the time 0", 0, relay.apply(-20000, 20000, 20000, -20000));
            due.phasors("then", relay, -20000, 20000, 20000, -20000);
            relay.pass(5000);
            due.is("at the time 5000", 5000, relay.apply(20000, -20000, -20000, 20000));
            due.phasors("then", relay, 20000, -20000, -20000, 20000);
        });
    }

    private static void ramp() {
        edges.range("10: samples is 1 to 2400, else BAD_VALUE", ZoneRelay.BAD_VALUE, 1, 2400, (relay, n) -> relay.ramp(n, 1, 2, 3, 4));
        edges.range("10: va is -20000 to 20000, else BAD_VALUE", ZoneRelay.BAD_VALUE, -20000, 20000, (relay, n) -> relay.ramp(9, n, 1, 2, 3));
        edges.range("10: vb is -20000 to 20000, else BAD_VALUE", ZoneRelay.BAD_VALUE, -20000, 20000, (relay, n) -> relay.ramp(9, 1, n, 2, 3));
        edges.range("10: ia is -20000 to 20000, else BAD_VALUE", ZoneRelay.BAD_VALUE, -20000, 20000, (relay, n) -> relay.ramp(9, 1, 2, n, 3));
        edges.range("10: ib is -20000 to 20000, else BAD_VALUE", ZoneRelay.BAD_VALUE, -20000, 20000, (relay, n) -> relay.ramp(9, 1, 2, 3, n));
        edges.test("10: the shortest and the longest ramp have all their samples left", () -> {
            ZoneRelay relay = new ZoneRelay();
            due.is("ramp of 1", 0, relay.ramp(1, 1, 1, 1, 1));
            due.is("left", 1, relay.phasor(4));
            relay.pass(7);
            due.is("ramp of 2400", 7, relay.ramp(2400, -20000, 20000, -20000, 20000));
            due.is("left", 2400, relay.phasor(4));
            due.phasors("the phasors stay until its first sample", relay, 1, 1, 1, 1);
        });
    }

    private static void network() {
        edges.range("11: part is 0 to 3, else BAD_VALUE", ZoneRelay.BAD_VALUE, 0, 3, (relay, n) -> relay.network(n, 5, 0));
        edges.range("11: E is 1 to 20000, else BAD_VALUE", ZoneRelay.BAD_VALUE, 1, 20000, (relay, n) -> relay.network(0, n, 0));
        edges.range("11: the second value of E has to be 0, else BAD_VALUE", ZoneRelay.BAD_VALUE, 0, 0, (relay, n) -> relay.network(0, 5, n));
        String[] parts = {"E", "the source", "the line", "the load"};
        for (int part = 1; part <= 3; part++) {
            int which = part;
            edges.range("11: r of " + parts[part] + " is 0 to 20000, else BAD_VALUE", ZoneRelay.BAD_VALUE, 0, 20000, (relay, n) -> relay.network(which, n, 5));
            edges.range("11: x of " + parts[part] + " is 0 to 20000, else BAD_VALUE", ZoneRelay.BAD_VALUE, 0, 20000, (relay, n) -> relay.network(which, 5, n));
            edges.test("11: " + parts[part] + " takes its least and its greatest values", () -> {
                ZoneRelay relay = new ZoneRelay();
                relay.network(which, 0, 20000);
                due.is("r", 0, relay.count(2 + 2 * which));
                due.is("x", 20000, relay.count(3 + 2 * which));
                due.is("the previous first value", 0, relay.network(which, 20000, 0));
                due.is("r", 20000, relay.count(2 + 2 * which));
                due.is("x", 0, relay.count(3 + 2 * which));
                due.is("the previous first value", 20000, relay.network(which, 1, 1));
            });
        }
        edges.test("11: E takes its least and its greatest value", () -> {
            ZoneRelay relay = new ZoneRelay();
            due.is("E of 1", 10000, relay.network(0, 1, 0));
            due.is("E", 1, relay.count(3));
            due.is("E of 20000", 1, relay.network(0, 20000, 0));
            due.is("E", 20000, relay.count(3));
        });
        edges.refused("11: a part below 0, and values that would fit", ZoneRelay.BAD_VALUE, relay -> relay.network(-1, 1, 0));
        edges.refused("11: E with both values wrong", ZoneRelay.BAD_VALUE, relay -> relay.network(0, 0, -1));
    }

    private static void fault() {
        edges.range("12: place is 0 to 1000, else BAD_VALUE", ZoneRelay.BAD_VALUE, 0, 1000, (relay, n) -> relay.fault(n, 5));
        edges.range("12: resistance is 0 to 20000, else BAD_VALUE", ZoneRelay.BAD_VALUE, 0, 20000, (relay, n) -> relay.fault(5, n));
        edges.refused("12: NOT_POSSIBLE if there are no such phasors", ZoneRelay.NOT_POSSIBLE,
            relay -> relay.network(1, 0, 0), relay -> relay.fault(0, 0));
        edges.refused("12: NOT_POSSIBLE at the end of a line without an impedance", ZoneRelay.NOT_POSSIBLE,
            SignalEdgesTest::withoutImpedance, relay -> relay.fault(1000, 0));
        edges.refused("12: BAD_VALUE for the place is checked before NOT_POSSIBLE", ZoneRelay.BAD_VALUE,
            SignalEdgesTest::withoutImpedance, relay -> relay.fault(-1, 0));
        edges.refused("12: BAD_VALUE for the resistance is checked before NOT_POSSIBLE", ZoneRelay.BAD_VALUE,
            relay -> relay.network(1, 0, 0), relay -> relay.fault(0, -1));
        edges.test("12: there are phasors if D is 1", () -> {
            ZoneRelay relay = bare(1, 0, 0);
            due.is("nothing", ZoneRelay.NOT_POSSIBLE, relay.fault(0, 0));
            due.is("a resistance of 1", 0, relay.fault(0, 1));
            due.phasors("then", relay, 1, 0, 1000, 0);
            relay.network(2, 0, 1);
            due.is("a reactance of 1", 0, relay.fault(1000, 0));
            due.phasors("then", relay, 1, 0, 0, -1000);
            relay.network(2, 0, 0);
            relay.network(1, 1, 0);
            due.is("a source's resistance of 1", 0, relay.fault(0, 0));
            due.phasors("then", relay, 0, 0, 1000, 0);
            relay.network(1, 0, 1);
            due.is("a source's reactance of 1", 0, relay.fault(0, 0));
            due.phasors("then", relay, 0, 0, 0, -1000);
        });
    }

    private static void withoutImpedance(ZoneRelay relay) {
        relay.network(1, 0, 0);
        relay.network(2, 0, 0);
        relay.network(3, 0, 0);
    }

    private static void healthy() {
        edges.refused("13: NOT_POSSIBLE if there are no such phasors", ZoneRelay.NOT_POSSIBLE,
            SignalEdgesTest::withoutImpedance, relay -> relay.healthy());
        edges.test("13: there are phasors if D is 1, of any part", () -> {
            for (int part = 1; part <= 3; part++) {
                for (int r = 0; r <= 1; r++) {
                    ZoneRelay relay = new ZoneRelay();
                    withoutImpedance(relay);
                    relay.network(0, 7, 0);
                    relay.pass(2);
                    due.is("none", ZoneRelay.NOT_POSSIBLE, relay.healthy());
                    relay.network(part, r, 1 - r);
                    due.is("part " + part, 2, relay.healthy());
                    due.phasors("part " + part, relay, part == 1 ? 0 : 7, 0, 7000 * r, -7000 * (1 - r));
                }
            }
        });
    }

    private static void phasor() {
        edges.range("14: what is 0 to 4, else GONE + BAD_VALUE", BAD_NUMBER, 0, 4, (relay, n) -> relay.phasor(n));
        edges.test("14: 0 samples are left if there is no ramp", () -> {
            ZoneRelay relay = new ZoneRelay();
            due.is("of a new object", 0, relay.phasor(4));
            relay.apply(1, 1, 1, 1);
            due.is("of phasors that were applied", 0, relay.phasor(4));
        });
        edges.test("14: from all samples of a ramp down to 0", () -> {
            ZoneRelay relay = new ZoneRelay();
            relay.ramp(5, 1, 1, 1, 1);
            for (int left = 5; left >= 0; left--) {
                due.is("left", left, relay.phasor(4));
                relay.pass(1);
            }
            due.is("left after it", 0, relay.phasor(4));
        });
        edges.test("14: the least and the greatest numbers", () -> {
            ZoneRelay relay = new ZoneRelay();
            relay.apply(-20000, 20000, -20000, 20000);
            due.phasors("then", relay, -20000, 20000, -20000, 20000);
            relay.apply(-2, -1, -6, -5);
            due.phasors("numbers that look like codes", relay, -2, -1, -6, -5);
        });
    }
}
