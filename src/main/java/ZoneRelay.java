/** A distance relay for a power line, as ../shared/DOC.md tells it. */
public final class ZoneRelay {
    public static final int NO_SUCH = -1, BAD_VALUE = -2, BAD_TEXT = -3, TOO_MANY = -4, NOT_POSSIBLE = -5, NONE = -6;
    public static final long GONE = -1000000000000000000L;
    public static final int INNER = 3, OUTER = 4;
    public static final int MINIMUM = 0, MEMORY_LEVEL = 1, MEMORY_HOLD = 2, LOAD_FROM = 3, LOAD_SLOPE = 4, LOAD_ZONES = 5, SWING_TIME = 6, SWING_ZONES = 7;
    public static final int FORWARD = 0, REVERSE = 1, BOTH = 2;

    private static final int POLYGONS = 5;
    private static final int MOST_CORNERS = 8;
    private static final int ZONES = 3;
    private static final int SETTINGS = 8;
    private static final int SLOTS = 2;
    private static final int LIMIT = 20000;
    private static final int FARTHEST_POINT = 100000;
    private static final int COORDINATE_OFFSET = 100000;
    private static final int LONGEST_DELAY = 2400;
    private static final int LONGEST_RAMP = 2400;
    private static final int LONGEST_TEST = 2400;
    private static final int LONGEST_PASS = 5000;
    private static final int LAST_TIME = 100000000;
    private static final int LAST_PLACE = 1000;
    private static final int SAMPLES_BEFORE_FAULT = 48;
    private static final int LONGEST_PAD = 80;
    private static final int FIRST_CHARACTER = 33, LAST_CHARACTER = 126;
    private static final int CYCLE = 24;
    private static final int QUARTER_BACK = 18;
    private static final int UNIT = 4096;
    private static final int CORRELATION = 49152;
    private static final int KEPT_EVENTS = 60;

    private static final int VOLTAGE = 0, SOURCE = 1, LINE = 2, LOAD = 3, PARTS = 4;
    private static final int PICKED_UP = 10, DROPPED = 20, TRIPPED = 30, SWING_BEGAN = 40, SWING_ENDED = 41;

    private static final int[] LOWEST_SETTING = {1, 0, 0, 0, 0, 0, 1, 0};
    private static final int[] HIGHEST_SETTING = {20000, 20000, 1000, 20000, 10000, 7, 1000, 7};
    private static final int[] COSINE = {
        4096, 3956, 3547, 2896, 2048, 1060, 0, -1060, -2048, -2896, -3547, -3956,
        -4096, -3956, -3547, -2896, -2048, -1060, 0, 1060, 2048, 2896, 3547, 3956
    };

    private final Relay relay;
    // Tests run in this copy; it is made once, since a call may not leave objects behind.
    private final Relay copy;
    // A slot is null until something is saved in it.
    private final Relay[] slots;
    private final Phasors faulted;
    private final Phasors unfaulted;
    private final Impedance seen;
    private final StringBuilder pad;
    private final Reader reader;
    private final StringBuilder spelled;

    public ZoneRelay() {
        relay = new Relay();
        copy = new Relay();
        slots = new Relay[SLOTS];
        faulted = new Phasors();
        unfaulted = new Phasors();
        seen = new Impedance();
        pad = new StringBuilder();
        reader = new Reader();
        spelled = new StringBuilder();
    }

    // ---- polygons and settings

    public int corner(int polygon, int x, int y) {
        if (outside(polygon, 0, POLYGONS - 1)) {
            return NO_SUCH;
        }
        if (beyondLimit(x) || beyondLimit(y)) {
            return BAD_VALUE;
        }
        Polygon changed = relay.polygons[polygon];
        if (changed.size >= MOST_CORNERS) {
            return TOO_MANY;
        }
        changed.append(x, y);
        return changed.size;
    }

    public int clear(int polygon) {
        if (outside(polygon, 0, POLYGONS - 1)) {
            return NO_SUCH;
        }
        int had = relay.polygons[polygon].size;
        relay.polygons[polygon].empty();
        return had;
    }

    public int at(int polygon, int index, int what) {
        if (outside(polygon, 0, POLYGONS - 1)) {
            return NO_SUCH;
        }
        Polygon asked = relay.polygons[polygon];
        if (outside(index, 0, asked.size - 1)) {
            return NO_SUCH;
        }
        if (outside(what, 0, 1)) {
            return BAD_VALUE;
        }
        return COORDINATE_OFFSET + (what == 0 ? asked.xs[index] : asked.ys[index]);
    }

    public int sound(int polygon) {
        if (outside(polygon, 0, POLYGONS - 1)) {
            return NO_SUCH;
        }
        return relay.polygons[polygon].defect;
    }

    public int contains(int polygon, int x, int y) {
        if (outside(polygon, 0, POLYGONS - 1)) {
            return NO_SUCH;
        }
        if (outside(x, -FARTHEST_POINT, FARTHEST_POINT) || outside(y, -FARTHEST_POINT, FARTHEST_POINT)) {
            return BAD_VALUE;
        }
        return asNumber(relay.polygons[polygon].holds(x, y, 1));
    }

    public int set(int setting, int value) {
        if (outside(setting, 0, SETTINGS - 1)) {
            return BAD_VALUE;
        }
        if (outside(value, LOWEST_SETTING[setting], HIGHEST_SETTING[setting])) {
            return BAD_VALUE;
        }
        int previous = relay.settings[setting];
        relay.settings[setting] = value;
        return previous;
    }

    public int zone(int zone, int delay, int direction) {
        if (outside(zone, 0, ZONES - 1)) {
            return NO_SUCH;
        }
        if (outside(delay, 1, LONGEST_DELAY) || outside(direction, FORWARD, BOTH)) {
            return BAD_VALUE;
        }
        Zone changed = relay.zones[zone];
        int previous = changed.delay;
        changed.delay = delay;
        changed.direction = direction;
        return previous;
    }

    // ---- signals

    public int apply(int va, int vb, int ia, int ib) {
        if (beyondLimit(va) || beyondLimit(vb) || beyondLimit(ia) || beyondLimit(ib)) {
            return BAD_VALUE;
        }
        relay.signal.now.put(va, vb, ia, ib);
        relay.signal.endRamp();
        return relay.time;
    }

    public int ramp(int samples, int va, int vb, int ia, int ib) {
        if (outside(samples, 1, LONGEST_RAMP)) {
            return BAD_VALUE;
        }
        if (beyondLimit(va) || beyondLimit(vb) || beyondLimit(ia) || beyondLimit(ib)) {
            return BAD_VALUE;
        }
        relay.signal.to.put(va, vb, ia, ib);
        relay.signal.beginRamp(samples);
        return relay.time;
    }

    public int network(int part, int r, int x) {
        if (outside(part, VOLTAGE, PARTS - 1)) {
            return BAD_VALUE;
        }
        boolean isVoltage = part == VOLTAGE;
        if (outside(r, isVoltage ? 1 : 0, LIMIT) || outside(x, 0, isVoltage ? 0 : LIMIT)) {
            return BAD_VALUE;
        }
        int previous = relay.network.first[part];
        relay.network.first[part] = r;
        relay.network.second[part] = x;
        return previous;
    }

    public int fault(int place, int resistance) {
        if (isNoFault(place, resistance)) {
            return BAD_VALUE;
        }
        if (!relay.network.findFaulted(place, resistance, faulted)) {
            return NOT_POSSIBLE;
        }
        relay.signal.jumpTo(faulted);
        return relay.time;
    }

    public int healthy() {
        if (!relay.network.findUnfaulted(unfaulted)) {
            return NOT_POSSIBLE;
        }
        relay.signal.jumpTo(unfaulted);
        return relay.time;
    }

    public long phasor(int what) {
        Phasors now = relay.signal.now;
        switch (what) {
            case 0: return now.va;
            case 1: return now.vb;
            case 2: return now.ia;
            case 3: return now.ib;
            case 4: return relay.signal.left;
            default: return GONE + BAD_VALUE;
        }
    }

    // ---- time and measurements

    public int pass(int samples) {
        if (outside(samples, 1, LONGEST_PASS)) {
            return BAD_VALUE;
        }
        if (relay.time > LAST_TIME - samples) {
            return NOT_POSSIBLE;
        }
        for (int i = 0; i < samples; i++) {
            relay.takeSample();
        }
        return relay.time;
    }

    public long measure(int what) {
        Impedance impedance = relay.impedance;
        switch (what) {
            case 0: return relay.estimate.va;
            case 1: return relay.estimate.vb;
            case 2: return relay.estimate.ia;
            case 3: return relay.estimate.ib;
            case 4: return relay.memoryA;
            case 5: return relay.memoryB;
            case 6: return relay.memoryAge;
            case 7: return asNumber(impedance.exists);
            case 8: return impedance.exists ? impedance.truncated(impedance.x) : GONE + NONE;
            case 9: return impedance.exists ? impedance.truncated(impedance.y) : GONE + NONE;
            case 10: return relay.between;
            case 11: return asNumber(relay.swing);
            case 12: return asNumber(relay.inLoad);
            default: return GONE + BAD_VALUE;
        }
    }

    public int state(int zone, int what) {
        if (outside(zone, 0, ZONES - 1)) {
            return NO_SUCH;
        }
        Zone asked = relay.zones[zone];
        switch (what) {
            case 0: return asNumber(asked.picked);
            case 1: return asked.timer;
            case 2: return Math.max(0, asked.delay - asked.timer);
            case 3: return asked.delay;
            case 4: return asked.direction;
            default: return BAD_VALUE;
        }
    }

    public int tripped() {
        return relay.trippedBy;
    }

    public int reset() {
        int previous = relay.trippedBy;
        relay.rearm();
        return previous;
    }

    public int event(int event, int what) {
        if (outside(what, 0, 1)) {
            return BAD_VALUE;
        }
        if (!relay.log.keeps(event)) {
            return NONE;
        }
        int row = event % KEPT_EVENTS;
        return what == 0 ? relay.log.times[row] : relay.log.kinds[row];
    }

    // ---- tests; they change nothing

    public int covers(int place, int resistance) {
        if (isNoFault(place, resistance)) {
            return BAD_VALUE;
        }
        return zonesOfFault(place, resistance);
    }

    public int reach(int zone, int resistance) {
        if (outside(zone, 0, ZONES - 1)) {
            return NO_SUCH;
        }
        if (outside(resistance, 0, LIMIT)) {
            return BAD_VALUE;
        }
        int farthest = NONE;
        for (int place = 0; place <= LAST_PLACE; place++) {
            int covered = zonesOfFault(place, resistance);
            if (covered == NOT_POSSIBLE || !isInSet(zone, covered)) {
                return farthest;
            }
            farthest = place;
        }
        return farthest;
    }

    public int test(int place, int resistance, int samples, int what) {
        if (isNoFault(place, resistance) || outside(samples, 1, LONGEST_TEST) || outside(what, 0, 1)) {
            return BAD_VALUE;
        }
        if (!relay.network.findFaulted(place, resistance, faulted) || !relay.network.findUnfaulted(unfaulted)) {
            return NOT_POSSIBLE;
        }
        copy.becomeLike(relay);
        copy.rearm();
        copy.signal.jumpTo(unfaulted);
        copy.samplesUntilTrip(SAMPLES_BEFORE_FAULT);
        copy.signal.jumpTo(faulted);
        int passed = copy.samplesUntilTrip(samples);
        return what == 0 ? passed : copy.trippedBy;
    }

    public int forecast(int samples) {
        if (outside(samples, 1, LONGEST_PASS)) {
            return BAD_VALUE;
        }
        copy.becomeLike(relay);
        return copy.samplesUntilTrip(samples);
    }

    // ---- texts

    public int say(int character) {
        if (outside(character, FIRST_CHARACTER, LAST_CHARACTER)) {
            return BAD_VALUE;
        }
        if (pad.length() >= LONGEST_PAD) {
            return TOO_MANY;
        }
        pad.append((char) character);
        return pad.length();
    }

    public int wipe() {
        int had = pad.length();
        pad.setLength(0);
        return had;
    }

    public int flaw() {
        return reader.findFlaw(pad);
    }

    public int load(int polygon) {
        if (outside(polygon, 0, POLYGONS - 1)) {
            return NO_SUCH;
        }
        if (reader.findFlaw(pad) != NONE) {
            return BAD_TEXT;
        }
        Polygon changed = relay.polygons[polygon];
        changed.empty();
        for (int i = 0; i < reader.corners; i++) {
            changed.append(reader.xs[i], reader.ys[i]);
        }
        pad.setLength(0);
        return changed.size;
    }

    public int spell(int polygon, int index) {
        if (outside(polygon, 0, POLYGONS - 1)) {
            return NO_SUCH;
        }
        relay.polygons[polygon].writeTo(spelled);
        if (index == -1) {
            return spelled.length();
        }
        if (outside(index, 0, spelled.length() - 1)) {
            return NONE;
        }
        return spelled.charAt(index);
    }

    // ---- saving

    public int count(int what) {
        Network network = relay.network;
        if (what >= 10 && what < 10 + SETTINGS) {
            return relay.settings[what - 10];
        }
        switch (what) {
            case 0: return relay.time;
            case 1: return relay.log.total;
            case 2: return pad.length();
            case 3: return network.first[VOLTAGE];
            case 4: return network.first[SOURCE];
            case 5: return network.second[SOURCE];
            case 6: return network.first[LINE];
            case 7: return network.second[LINE];
            case 8: return network.first[LOAD];
            case 9: return network.second[LOAD];
            default: return BAD_VALUE;
        }
    }

    public int save(int slot) {
        if (outside(slot, 0, SLOTS - 1)) {
            return BAD_VALUE;
        }
        if (slots[slot] == null) {
            slots[slot] = new Relay();
        }
        slots[slot].becomeLike(relay);
        return relay.time;
    }

    public int restore(int slot) {
        if (outside(slot, 0, SLOTS - 1)) {
            return BAD_VALUE;
        }
        if (slots[slot] == null) {
            return NOT_POSSIBLE;
        }
        relay.becomeLike(slots[slot]);
        return relay.time;
    }

    // ---- what several calls share

    private static boolean outside(int value, int lowest, int highest) {
        return value < lowest || value > highest;
    }

    private static boolean beyondLimit(int value) {
        return outside(value, -LIMIT, LIMIT);
    }

    private static boolean isNoFault(int place, int resistance) {
        return outside(place, 0, LAST_PLACE) || outside(resistance, 0, LIMIT);
    }

    private static boolean isInSet(int zone, int zones) {
        return (zones >> zone & 1) == 1;
    }

    private static int asNumber(boolean truth) {
        return truth ? 1 : 0;
    }

    private int zonesOfFault(int place, int resistance) {
        if (!relay.network.findFaulted(place, resistance, faulted)) {
            return NOT_POSSIBLE;
        }
        seen.become(faulted, relay.settings[MINIMUM]);
        int covered = 0;
        for (int zone = 0; zone < ZONES; zone++) {
            if (seen.isIn(relay.polygons[zone])) {
                covered |= 1 << zone;
            }
        }
        return covered;
    }

    /** A voltage (va, vb) and a current (ia, ib). */
    private static final class Phasors {
        int va, vb, ia, ib;

        void put(int newVa, int newVb, int newIa, int newIb) {
            va = newVa;
            vb = newVb;
            ia = newIa;
            ib = newIb;
        }

        void becomeLike(Phasors other) {
            put(other.va, other.vb, other.ia, other.ib);
        }
    }

    /** The phasors that stand at the relay, and the ramp that may lead them on. */
    private static final class Signal {
        final Phasors now = new Phasors();
        final Phasors from = new Phasors();
        final Phasors to = new Phasors();
        int length;
        int left;

        void becomeLike(Signal other) {
            now.becomeLike(other.now);
            from.becomeLike(other.from);
            to.becomeLike(other.to);
            length = other.length;
            left = other.left;
        }

        void jumpTo(Phasors other) {
            now.becomeLike(other);
            endRamp();
        }

        void endRamp() {
            left = 0;
        }

        void beginRamp(int samples) {
            from.becomeLike(now);
            length = samples;
            left = samples;
        }

        void advance() {
            if (left <= 0) {
                return;
            }
            left--;
            now.put(onTheWay(from.va, to.va), onTheWay(from.vb, to.vb), onTheWay(from.ia, to.ia), onTheWay(from.ib, to.ib));
        }

        private int onTheWay(int start, int target) {
            return length <= 0 ? target : start + (target - start) * (length - left) / length;
        }
    }

    /** The source, the line and the load: of the voltage only the first number counts. */
    private static final class Network {
        final int[] first = {10000, 100, 500, 20000};
        final int[] second = {0, 1000, 3000, 5000};

        void becomeLike(Network other) {
            System.arraycopy(other.first, 0, first, 0, PARTS);
            System.arraycopy(other.second, 0, second, 0, PARTS);
        }

        boolean findFaulted(int place, int resistance, Phasors found) {
            return solve(first[LINE] * place / 1000 + resistance, second[LINE] * place / 1000, found);
        }

        boolean findUnfaulted(Phasors found) {
            return solve(first[LINE] + first[LOAD], second[LINE] + second[LOAD], found);
        }

        private boolean solve(int seenR, int seenX, Phasors found) {
            long e = first[VOLTAGE];
            long rs = first[SOURCE];
            long xs = second[SOURCE];
            long r = seenR + rs;
            long x = seenX + xs;
            long d = r * r + x * x;
            if (d == 0) {
                return false;
            }
            long ia = 1000 * e * r / d;
            long ib = -1000 * e * x / d;
            long va = e - (ia * rs - ib * xs) / 1000;
            long vb = -(ia * xs + ib * rs) / 1000;
            found.put(limited(va), limited(vb), limited(ia), limited(ib));
            return true;
        }

        private static int limited(long value) {
            return (int) Math.max(-LIMIT, Math.min(LIMIT, value));
        }
    }

    /** The latest samples of one signal, and their correlations, kept up with each sample. */
    private static final class Window {
        final int[] samples = new int[CYCLE];
        long cosineSum;
        long sineSum;

        void becomeLike(Window other) {
            System.arraycopy(other.samples, 0, samples, 0, CYCLE);
            cosineSum = other.cosineSum;
            sineSum = other.sineSum;
        }

        void take(int time, int a, int b) {
            int k = Math.floorMod(time, CYCLE);
            int cosine = COSINE[k];
            int sine = COSINE[(k + QUARTER_BACK) % CYCLE];
            int sample = (a * cosine - b * sine) / UNIT;
            // The sample that leaves stood a whole cycle ago, so it had the same factors.
            long change = sample - samples[k];
            samples[k] = sample;
            cosineSum += change * cosine;
            sineSum += change * sine;
        }

        int estimateA() {
            return (int) (cosineSum / CORRELATION);
        }

        int estimateB() {
            return (int) (-sineSum / CORRELATION);
        }
    }

    /** The point (x / d, y / d): a fraction, because zones are compared exactly. */
    private static final class Impedance {
        boolean exists;
        long x;
        long y;
        long d = 1;

        void becomeLike(Impedance other) {
            exists = other.exists;
            x = other.x;
            y = other.y;
            d = other.d;
        }

        void become(Phasors of, int minimum) {
            long va = of.va;
            long vb = of.vb;
            long ia = of.ia;
            long ib = of.ib;
            d = ia * ia + ib * ib;
            x = 1000 * (va * ia + vb * ib);
            y = 1000 * (vb * ia - va * ib);
            exists = d > 0 && d >= (long) minimum * minimum;
        }

        long truncated(long coordinate) {
            return d == 0 ? 0 : coordinate / d;
        }

        boolean isIn(Polygon polygon) {
            return exists && polygon.holds(x, y, d);
        }

        boolean isInLoad(int from, int slope) {
            return exists && Math.abs(x) >= from * d && Math.abs(y) * 1000 <= slope * Math.abs(x);
        }
    }

    /** Corners, and what sound() says of them, found anew only when they change. */
    private static final class Polygon {
        static final int SOUND = 0, TOO_FEW = 1, NOT_LEFT = 2, TOO_MANY_TURNS = 3;

        final int[] xs = new int[MOST_CORNERS];
        final int[] ys = new int[MOST_CORNERS];
        int size;
        int defect = TOO_FEW;

        void becomeLike(Polygon other) {
            System.arraycopy(other.xs, 0, xs, 0, MOST_CORNERS);
            System.arraycopy(other.ys, 0, ys, 0, MOST_CORNERS);
            size = other.size;
            defect = other.defect;
        }

        void empty() {
            size = 0;
            defect = TOO_FEW;
        }

        void append(int x, int y) {
            if (size >= MOST_CORNERS) {
                return;
            }
            xs[size] = x;
            ys[size] = y;
            size++;
            defect = findDefect();
        }

        boolean holds(long x, long y, long d) {
            if (defect != SOUND) {
                return false;
            }
            for (int a = 0; a < size; a++) {
                int b = after(a);
                long alongX = xs[b] - xs[a];
                long alongY = ys[b] - ys[a];
                if (alongX * (y - ys[a] * d) - alongY * (x - xs[a] * d) < 0) {
                    return false;
                }
            }
            return true;
        }

        void writeTo(StringBuilder text) {
            text.setLength(0);
            for (int i = 0; i < size; i++) {
                if (i > 0) {
                    text.append('/');
                }
                text.append(xs[i]);
                text.append(',');
                text.append(ys[i]);
            }
        }

        private int findDefect() {
            if (size < 3) {
                return TOO_FEW;
            }
            if (!turnsLeftEverywhere()) {
                return NOT_LEFT;
            }
            return countTurnsOfY() == 2 ? SOUND : TOO_MANY_TURNS;
        }

        private boolean turnsLeftEverywhere() {
            for (int a = 0; a < size; a++) {
                int b = after(a);
                int c = after(b);
                long turn = (long) (xs[b] - xs[a]) * (ys[c] - ys[b]) - (long) (ys[b] - ys[a]) * (xs[c] - xs[b]);
                if (turn <= 0) {
                    return false;
                }
            }
            return true;
        }

        private int countTurnsOfY() {
            int turns = 0;
            int before = 0;
            // The first round only finds the sign that stands before the first one in the circle.
            for (int a = 0; a < size; a++) {
                int sign = Integer.compare(ys[after(a)], ys[a]);
                before = sign == 0 ? before : sign;
            }
            for (int a = 0; a < size; a++) {
                int sign = Integer.compare(ys[after(a)], ys[a]);
                if (sign != 0 && sign != before) {
                    turns++;
                    before = sign;
                }
            }
            return turns;
        }

        private int after(int index) {
            return index + 1 < size ? index + 1 : 0;
        }
    }

    /** A zone's settings, and what the latest sample made of it. */
    private static final class Zone {
        int delay;
        int direction = FORWARD;
        int timer;
        boolean picked;

        Zone(int firstDelay) {
            delay = firstDelay;
        }

        void becomeLike(Zone other) {
            delay = other.delay;
            direction = other.direction;
            timer = other.timer;
            picked = other.picked;
        }

        boolean fits(long torque) {
            return direction == BOTH || (direction == FORWARD ? torque > 0 : torque < 0);
        }
    }

    /** The latest events; the event n stands in the row n % KEPT_EVENTS. */
    private static final class Log {
        final int[] times = new int[KEPT_EVENTS];
        final int[] kinds = new int[KEPT_EVENTS];
        int total;

        void becomeLike(Log other) {
            System.arraycopy(other.times, 0, times, 0, KEPT_EVENTS);
            System.arraycopy(other.kinds, 0, kinds, 0, KEPT_EVENTS);
            total = other.total;
        }

        void note(int time, int kind) {
            int row = Math.floorMod(total, KEPT_EVENTS);
            times[row] = time;
            kinds[row] = kind;
            total++;
        }

        boolean keeps(int event) {
            return event >= 0 && event < total && event >= total - KEPT_EVENTS;
        }
    }

    /** Everything that save() saves. */
    private static final class Relay {
        final Polygon[] polygons = new Polygon[POLYGONS];
        final int[] settings = {100, 1000, 48, 20000, 500, 0, 24, 0};
        final Zone[] zones = {new Zone(4), new Zone(480), new Zone(1200)};
        final Network network = new Network();
        final Signal signal = new Signal();
        final Window voltage = new Window();
        final Window current = new Window();
        final Phasors estimate = new Phasors();
        final Impedance impedance = new Impedance();
        final Log log = new Log();
        int memoryA;
        int memoryB;
        int memoryAge;
        int between;
        boolean swing;
        boolean inLoad;
        int trippedBy = NONE;
        int time;

        Relay() {
            for (int i = 0; i < POLYGONS; i++) {
                polygons[i] = new Polygon();
            }
        }

        void becomeLike(Relay other) {
            for (int i = 0; i < POLYGONS; i++) {
                polygons[i].becomeLike(other.polygons[i]);
            }
            for (int i = 0; i < ZONES; i++) {
                zones[i].becomeLike(other.zones[i]);
            }
            System.arraycopy(other.settings, 0, settings, 0, SETTINGS);
            network.becomeLike(other.network);
            signal.becomeLike(other.signal);
            voltage.becomeLike(other.voltage);
            current.becomeLike(other.current);
            estimate.becomeLike(other.estimate);
            impedance.becomeLike(other.impedance);
            log.becomeLike(other.log);
            memoryA = other.memoryA;
            memoryB = other.memoryB;
            memoryAge = other.memoryAge;
            between = other.between;
            swing = other.swing;
            inLoad = other.inLoad;
            trippedBy = other.trippedBy;
            time = other.time;
        }

        void rearm() {
            trippedBy = NONE;
            for (int i = 0; i < ZONES; i++) {
                zones[i].timer = 0;
            }
        }

        int samplesUntilTrip(int most) {
            for (int passed = 0; passed <= most; passed++) {
                if (trippedBy != NONE) {
                    return passed;
                }
                if (passed < most) {
                    takeSample();
                }
            }
            return NONE;
        }

        void takeSample() {
            signal.advance();
            estimateFrom(signal.now);
            remember();
            impedance.become(estimate, settings[MINIMUM]);
            inLoad = impedance.isInLoad(settings[LOAD_FROM], settings[LOAD_SLOPE]);
            watchSwing();
            pickUpZones();
            runTimers();
            trip();
            time++;
        }

        private void estimateFrom(Phasors now) {
            voltage.take(time, now.va, now.vb);
            current.take(time, now.ia, now.ib);
            estimate.put(voltage.estimateA(), voltage.estimateB(), current.estimateA(), current.estimateB());
        }

        private void remember() {
            long va = estimate.va;
            long vb = estimate.vb;
            long level = settings[MEMORY_LEVEL];
            if (va * va + vb * vb >= level * level) {
                memoryA = estimate.va;
                memoryB = estimate.vb;
                memoryAge = 0;
            } else {
                memoryAge++;
            }
        }

        private void watchSwing() {
            if (!impedance.isIn(polygons[OUTER])) {
                between = 0;
                endSwing();
            } else if (!impedance.isIn(polygons[INNER])) {
                between++;
            } else if (!swing && between >= settings[SWING_TIME]) {
                swing = true;
                log.note(time, SWING_BEGAN);
            }
        }

        private void endSwing() {
            if (swing) {
                swing = false;
                log.note(time, SWING_ENDED);
            }
        }

        private void pickUpZones() {
            long torque = torque();
            for (int i = 0; i < ZONES; i++) {
                boolean picked = zones[i].fits(torque) && !isBlocked(i) && impedance.isIn(polygons[i]);
                if (picked != zones[i].picked) {
                    zones[i].picked = picked;
                    log.note(time, (picked ? PICKED_UP : DROPPED) + i);
                }
            }
        }

        /** The number whose sign tells the direction: above 0 is forward. */
        private long torque() {
            boolean isMemoryFresh = memoryAge <= settings[MEMORY_HOLD];
            long pa = isMemoryFresh ? memoryA : estimate.va;
            long pb = isMemoryFresh ? memoryB : estimate.vb;
            long ia = estimate.ia;
            long ib = estimate.ib;
            return network.first[LINE] * (pa * ia + pb * ib) + network.second[LINE] * (pb * ia - pa * ib);
        }

        private boolean isBlocked(int zone) {
            return swing && isInSet(zone, settings[SWING_ZONES]) || inLoad && isInSet(zone, settings[LOAD_ZONES]);
        }

        private void runTimers() {
            for (int i = 0; i < ZONES; i++) {
                zones[i].timer = zones[i].picked ? zones[i].timer + 1 : 0;
            }
        }

        private void trip() {
            for (int i = 0; i < ZONES && trippedBy == NONE; i++) {
                if (zones[i].timer >= zones[i].delay) {
                    trippedBy = i;
                    log.note(time, TRIPPED + i);
                }
            }
        }
    }

    /** Reads a polygon's text, character by character, as far as a correct text can begin so. */
    private static final class Reader {
        final int[] xs = new int[MOST_CORNERS];
        final int[] ys = new int[MOST_CORNERS];
        int corners;
        private boolean isAtY;
        private boolean isNegative;
        private int digits;
        private int value;

        /** The index of the text's fault, or NONE; without a fault, the corners are those of the text. */
        int findFlaw(StringBuilder text) {
            corners = 0;
            isAtY = false;
            startNumber();
            for (int i = 0; i < text.length(); i++) {
                if (!takes(text.charAt(i))) {
                    return i;
                }
            }
            if (!isAtY || digits == 0) {
                return text.length();
            }
            endCorner();
            return NONE;
        }

        private boolean takes(char sign) {
            if (sign == '-') {
                return takesMinus();
            }
            if (sign == ',') {
                return takesComma();
            }
            if (sign == '/') {
                return takesSlash();
            }
            return takesDigit(sign - '0');
        }

        private boolean takesMinus() {
            if (isNegative || digits > 0) {
                return false;
            }
            isNegative = true;
            return true;
        }

        private boolean takesComma() {
            if (isAtY || digits == 0 || corners >= MOST_CORNERS) {
                return false;
            }
            xs[corners] = number();
            isAtY = true;
            startNumber();
            return true;
        }

        private boolean takesSlash() {
            // The corner that ends here is not the last one, so there must be room for one more.
            if (!isAtY || digits == 0 || corners >= MOST_CORNERS - 1) {
                return false;
            }
            endCorner();
            return true;
        }

        private boolean takesDigit(int digit) {
            boolean isLeadingZero = digits > 0 && value == 0;
            if (outside(digit, 0, 9) || isLeadingZero || value * 10 + digit > LIMIT) {
                return false;
            }
            value = value * 10 + digit;
            digits++;
            return true;
        }

        private void startNumber() {
            isNegative = false;
            digits = 0;
            value = 0;
        }

        private int number() {
            return isNegative ? -value : value;
        }

        private void endCorner() {
            if (corners >= MOST_CORNERS) {
                return;
            }
            ys[corners] = number();
            corners++;
            isAtY = false;
            startNumber();
        }
    }
}
