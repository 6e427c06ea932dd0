import java.math.BigInteger;
import java.util.ArrayList;
import java.util.List;
import java.util.regex.Matcher;
import java.util.regex.Pattern;

/**
 * The document once more, as slowly and as literally as it can be written: all samples are kept and
 * summed anew, points are fractions of BigIntegers, texts are judged by a pattern, copies are real ones.
 */
public final class Model {
    private static final int NO_SUCH = -1, BAD_VALUE = -2, BAD_TEXT = -3, TOO_MANY = -4, NOT_POSSIBLE = -5, NONE = -6;
    private static final long GONE = -1000000000000000000L;
    private static final int[] FIRST_COSINES = {4096, 3956, 3547, 2896, 2048, 1060, 0};
    private static final int[][] RANGES = {
        {1, 20000}, {0, 20000}, {0, 1000}, {0, 20000}, {0, 10000}, {0, 7}, {1, 1000}, {0, 7}
    };
    private static final String NUMBER = "-?(?:0|[1-9][0-9]{0,3}|1[0-9]{4}|20000)";
    private static final String CORNER = NUMBER + "," + NUMBER;
    private static final Pattern POLYGON = Pattern.compile(CORNER + "(?:/" + CORNER + "){0,7}");

    private List<List<int[]>> polygons = new ArrayList<>();
    private int[] settings = {100, 1000, 48, 20000, 500, 0, 24, 0};
    private int[][] zones = {{4, 0}, {480, 0}, {1200, 0}};
    private int[] timers = new int[3];
    private boolean[] picked = new boolean[3];
    private int[][] parts = {{10000, 0}, {100, 1000}, {500, 3000}, {20000, 5000}};
    private int[] phasors = new int[4];
    private int[] from = new int[4];
    private int[] to = new int[4];
    private int rampOf = 0;
    private int rampLeft = 0;
    private List<int[]> samples = new ArrayList<>();
    private long[] estimates = new long[4];
    private long[] memory = new long[2];
    private int age = 0;
    private BigInteger[] point = null;
    private boolean inLoad = false;
    private int between = 0;
    private boolean swing = false;
    private int trippedBy = NONE;
    private int time = 0;
    private List<int[]> events = new ArrayList<>();

    private String pad = "";
    private final Model[] slots = new Model[2];

    public Model() {
        for (int i = 0; i < 5; i++) {
            polygons.add(new ArrayList<>());
        }
    }

    /** A copy of everything except the pad and the slots. */
    private Model twin() {
        Model twin = new Model();
        twin.take(this);
        return twin;
    }

    private void take(Model other) {
        polygons = new ArrayList<>();
        for (List<int[]> polygon : other.polygons) {
            polygons.add(new ArrayList<>(polygon));
        }
        settings = other.settings.clone();
        zones = new int[][] {other.zones[0].clone(), other.zones[1].clone(), other.zones[2].clone()};
        timers = other.timers.clone();
        picked = other.picked.clone();
        parts = new int[][] {other.parts[0].clone(), other.parts[1].clone(), other.parts[2].clone(), other.parts[3].clone()};
        phasors = other.phasors.clone();
        from = other.from.clone();
        to = other.to.clone();
        rampOf = other.rampOf;
        rampLeft = other.rampLeft;
        samples = new ArrayList<>(other.samples);
        estimates = other.estimates.clone();
        memory = other.memory.clone();
        age = other.age;
        point = other.point == null ? null : other.point.clone();
        inLoad = other.inLoad;
        between = other.between;
        swing = other.swing;
        trippedBy = other.trippedBy;
        time = other.time;
        events = new ArrayList<>(other.events);
    }

    // ---- polygons and settings

    public int corner(int polygon, int x, int y) {
        if (polygon < 0 || polygon > 4) return NO_SUCH;
        if (!between(x, -20000, 20000) || !between(y, -20000, 20000)) return BAD_VALUE;
        if (polygons.get(polygon).size() == 8) return TOO_MANY;
        polygons.get(polygon).add(new int[] {x, y});
        return polygons.get(polygon).size();
    }

    public int clear(int polygon) {
        if (polygon < 0 || polygon > 4) return NO_SUCH;
        int had = polygons.get(polygon).size();
        polygons.get(polygon).clear();
        return had;
    }

    public int at(int polygon, int index, int what) {
        if (polygon < 0 || polygon > 4) return NO_SUCH;
        if (index < 0 || index >= polygons.get(polygon).size()) return NO_SUCH;
        if (what != 0 && what != 1) return BAD_VALUE;
        return polygons.get(polygon).get(index)[what] + 100000;
    }

    public int sound(int polygon) {
        if (polygon < 0 || polygon > 4) return NO_SUCH;
        return soundness(polygons.get(polygon));
    }

    private static int soundness(List<int[]> corners) {
        int n = corners.size();
        if (n < 3) return 1;
        StringBuilder signs = new StringBuilder();
        for (int i = 0; i < n; i++) {
            int[] a = corners.get(i);
            int[] b = corners.get((i + 1) % n);
            int[] c = corners.get((i + 2) % n);
            BigInteger left = big(b[0] - a[0]).multiply(big(c[1] - b[1])).subtract(big(b[1] - a[1]).multiply(big(c[0] - b[0])));
            if (left.signum() <= 0) return 2;
            if (b[1] != a[1]) signs.append(b[1] > a[1] ? '+' : '-');
        }
        String circle = signs.append(signs.charAt(0)).toString();
        int changes = 0;
        for (int i = 1; i < circle.length(); i++) {
            if (circle.charAt(i) != circle.charAt(i - 1)) changes++;
        }
        return changes == 2 ? 0 : 3;
    }

    private static BigInteger big(long value) {
        return BigInteger.valueOf(value);
    }

    /** A point is {numerator of x, numerator of y, denominator}. */
    private static boolean inside(List<int[]> corners, BigInteger[] point) {
        if (soundness(corners) != 0) return false;
        for (int i = 0; i < corners.size(); i++) {
            int[] a = corners.get(i);
            int[] b = corners.get((i + 1) % corners.size());
            BigInteger up = point[1].subtract(point[2].multiply(big(a[1])));
            BigInteger right = point[0].subtract(point[2].multiply(big(a[0])));
            if (big(b[0] - a[0]).multiply(up).compareTo(big(b[1] - a[1]).multiply(right)) < 0) return false;
        }
        return true;
    }

    public int contains(int polygon, int x, int y) {
        if (polygon < 0 || polygon > 4) return NO_SUCH;
        if (!between(x, -100000, 100000) || !between(y, -100000, 100000)) return BAD_VALUE;
        return inside(polygons.get(polygon), new BigInteger[] {big(x), big(y), BigInteger.ONE}) ? 1 : 0;
    }

    public int set(int setting, int value) {
        if (setting < 0 || setting > 7) return BAD_VALUE;
        if (!between(value, RANGES[setting][0], RANGES[setting][1])) return BAD_VALUE;
        int previous = settings[setting];
        settings[setting] = value;
        return previous;
    }

    public int zone(int zone, int delay, int direction) {
        if (zone < 0 || zone > 2) return NO_SUCH;
        if (!between(delay, 1, 2400) || !between(direction, 0, 2)) return BAD_VALUE;
        int previous = zones[zone][0];
        zones[zone] = new int[] {delay, direction};
        return previous;
    }

    // ---- signals

    public int apply(int va, int vb, int ia, int ib) {
        for (int value : new int[] {va, vb, ia, ib}) {
            if (!between(value, -20000, 20000)) return BAD_VALUE;
        }
        setPhasors(new int[] {va, vb, ia, ib});
        return time;
    }

    private void setPhasors(int[] values) {
        phasors = values.clone();
        rampLeft = 0;
    }

    public int ramp(int samples, int va, int vb, int ia, int ib) {
        if (!between(samples, 1, 2400)) return BAD_VALUE;
        for (int value : new int[] {va, vb, ia, ib}) {
            if (!between(value, -20000, 20000)) return BAD_VALUE;
        }
        from = phasors.clone();
        to = new int[] {va, vb, ia, ib};
        rampOf = samples;
        rampLeft = samples;
        return time;
    }

    public int network(int part, int r, int x) {
        if (part < 0 || part > 3) return BAD_VALUE;
        if (part == 0 && (!between(r, 1, 20000) || x != 0)) return BAD_VALUE;
        if (part != 0 && (!between(r, 0, 20000) || !between(x, 0, 20000))) return BAD_VALUE;
        int previous = parts[part][0];
        parts[part] = new int[] {r, x};
        return previous;
    }

    /** The phasors of a fault, or, with a place below 0, those without one; null if there are none. */
    private int[] solve(int place, int resistance) {
        BigInteger seenR = big(place < 0 ? parts[2][0] + parts[3][0] : parts[2][0] * place / 1000 + resistance);
        BigInteger seenX = big(place < 0 ? parts[2][1] + parts[3][1] : parts[2][1] * place / 1000);
        BigInteger rs = big(parts[1][0]);
        BigInteger xs = big(parts[1][1]);
        BigInteger r = seenR.add(rs);
        BigInteger x = seenX.add(xs);
        BigInteger d = r.multiply(r).add(x.multiply(x));
        if (d.signum() == 0) return null;
        BigInteger e = big(parts[0][0]);
        BigInteger thousand = big(1000);
        BigInteger ia = thousand.multiply(e).multiply(r).divide(d);
        BigInteger ib = thousand.negate().multiply(e).multiply(x).divide(d);
        BigInteger va = e.subtract(ia.multiply(rs).subtract(ib.multiply(xs)).divide(thousand));
        BigInteger vb = ia.multiply(xs).add(ib.multiply(rs)).negate().divide(thousand);
        return new int[] {limited(va), limited(vb), limited(ia), limited(ib)};
    }

    private static int limited(BigInteger value) {
        return value.min(big(20000)).max(big(-20000)).intValueExact();
    }

    public int fault(int place, int resistance) {
        if (!between(place, 0, 1000) || !between(resistance, 0, 20000)) return BAD_VALUE;
        int[] found = solve(place, resistance);
        if (found == null) return NOT_POSSIBLE;
        setPhasors(found);
        return time;
    }

    public int healthy() {
        int[] found = solve(-1, 0);
        if (found == null) return NOT_POSSIBLE;
        setPhasors(found);
        return time;
    }

    public long phasor(int what) {
        if (!between(what, 0, 4)) return GONE + BAD_VALUE;
        return what == 4 ? rampLeft : phasors[what];
    }

    // ---- time and measurements

    public int pass(int samples) {
        if (!between(samples, 1, 5000)) return BAD_VALUE;
        if (time + (long) samples > 100000000) return NOT_POSSIBLE;
        for (int i = 0; i < samples; i++) {
            sample();
        }
        return time;
    }

    private static int c(int k) {
        if (k > 12) return c(24 - k);
        return k > 6 ? -c(12 - k) : FIRST_COSINES[k];
    }

    private static int s(int k) {
        return c((k + 18) % 24);
    }

    private void sample() {
        if (rampLeft > 0) {
            int i = rampOf - rampLeft + 1;
            for (int k = 0; k < 4; k++) {
                phasors[k] = from[k] + (to[k] - from[k]) * i / rampOf;
            }
            rampLeft--;
        }
        int k = time % 24;
        samples.add(new int[] {
            (phasors[0] * c(k) - phasors[1] * s(k)) / 4096, (phasors[2] * c(k) - phasors[3] * s(k)) / 4096
        });
        for (int signal = 0; signal < 2; signal++) {
            long real = 0;
            long imaginary = 0;
            for (int t = Math.max(0, time - 23); t <= time; t++) {
                // Twins in tests keep few samples of the past: the list ends at the present time.
                long x = samples.get(samples.size() - 1 - (time - t))[signal];
                real += x * c(t % 24);
                imaginary += -x * s(t % 24);
            }
            estimates[2 * signal] = real / 49152;
            estimates[2 * signal + 1] = imaginary / 49152;
        }
        stepMemory();
        stepImpedance();
        List<int[]> news = new ArrayList<>();
        stepSwing(news);
        stepZones(news);
        stepTimers(news);
        events.addAll(news);
        time++;
    }

    private void stepMemory() {
        BigInteger square = big(estimates[0]).pow(2).add(big(estimates[1]).pow(2));
        if (square.compareTo(big(settings[1]).pow(2)) >= 0) {
            memory = new long[] {estimates[0], estimates[1]};
            age = 0;
        } else {
            age++;
        }
    }

    private static BigInteger[] impedance(long[] e, int minimum) {
        BigInteger va = big(e[0]);
        BigInteger vb = big(e[1]);
        BigInteger ia = big(e[2]);
        BigInteger ib = big(e[3]);
        BigInteger d = ia.multiply(ia).add(ib.multiply(ib));
        if (d.compareTo(big(minimum).pow(2)) < 0) return null;
        BigInteger p = va.multiply(ia).add(vb.multiply(ib));
        BigInteger q = vb.multiply(ia).subtract(va.multiply(ib));
        return new BigInteger[] {p.multiply(big(1000)), q.multiply(big(1000)), d};
    }

    private void stepImpedance() {
        point = impedance(estimates, settings[0]);
        inLoad = false;
        if (point != null) {
            boolean far = point[0].abs().compareTo(point[2].multiply(big(settings[3]))) >= 0;
            boolean flat = point[1].abs().multiply(big(1000)).compareTo(point[0].abs().multiply(big(settings[4]))) <= 0;
            inLoad = far && flat;
        }
    }

    private void stepSwing(List<int[]> news) {
        boolean before = swing;
        if (point == null || !inside(polygons.get(4), point)) {
            between = 0;
            swing = false;
        } else if (!inside(polygons.get(3), point)) {
            between++;
        } else if (between >= settings[6]) {
            swing = true;
        }
        if (swing != before) news.add(new int[] {time, swing ? 40 : 41});
    }

    private void stepZones(List<int[]> news) {
        boolean remembers = age <= settings[2];
        BigInteger pa = big(remembers ? memory[0] : estimates[0]);
        BigInteger pb = big(remembers ? memory[1] : estimates[1]);
        BigInteger ia = big(estimates[2]);
        BigInteger ib = big(estimates[3]);
        BigInteger f = big(parts[2][0]).multiply(pa.multiply(ia).add(pb.multiply(ib)))
            .add(big(parts[2][1]).multiply(pb.multiply(ia).subtract(pa.multiply(ib))));
        for (int zone = 0; zone < 3; zone++) {
            int direction = zones[zone][1];
            boolean fits = direction == 2 || direction == 0 && f.signum() > 0 || direction == 1 && f.signum() < 0;
            boolean swingBlocks = swing && (settings[7] & 1 << zone) != 0;
            boolean loadBlocks = inLoad && (settings[5] & 1 << zone) != 0;
            boolean now = point != null && inside(polygons.get(zone), point) && fits && !swingBlocks && !loadBlocks;
            if (now && !picked[zone]) news.add(new int[] {time, 10 + zone});
            if (!now && picked[zone]) news.add(new int[] {time, 20 + zone});
            picked[zone] = now;
        }
    }

    private void stepTimers(List<int[]> news) {
        int lowest = NONE;
        for (int zone = 2; zone >= 0; zone--) {
            timers[zone] = picked[zone] ? timers[zone] + 1 : 0;
            if (timers[zone] >= zones[zone][0]) lowest = zone;
        }
        if (trippedBy == NONE && lowest != NONE) {
            trippedBy = lowest;
            news.add(new int[] {time, 30 + lowest});
        }
    }

    public long measure(int what) {
        if (!between(what, 0, 12)) return GONE + BAD_VALUE;
        if (what < 4) return estimates[what];
        if (what < 6) return memory[what - 4];
        if (what == 6) return age;
        if (what == 7) return point == null ? 0 : 1;
        if (what < 10) return point == null ? GONE + NONE : point[what - 8].divide(point[2]).longValueExact();
        if (what == 10) return between;
        return (what == 11 ? swing : inLoad) ? 1 : 0;
    }

    public int state(int zone, int what) {
        if (zone < 0 || zone > 2) return NO_SUCH;
        if (what < 0 || what > 4) return BAD_VALUE;
        int left = zones[zone][0] - timers[zone];
        return new int[] {picked[zone] ? 1 : 0, timers[zone], left < 0 ? 0 : left, zones[zone][0], zones[zone][1]}[what];
    }

    public int tripped() {
        return trippedBy;
    }

    public int reset() {
        int previous = trippedBy;
        trippedBy = NONE;
        timers = new int[3];
        return previous;
    }

    public int event(int event, int what) {
        if (what != 0 && what != 1) return BAD_VALUE;
        if (event < 0 || event >= events.size() || event < events.size() - 60) return NONE;
        return events.get(event)[what];
    }

    // ---- tests; they change nothing

    public int covers(int place, int resistance) {
        if (!between(place, 0, 1000) || !between(resistance, 0, 20000)) return BAD_VALUE;
        int[] found = solve(place, resistance);
        if (found == null) return NOT_POSSIBLE;
        BigInteger[] at = impedance(new long[] {found[0], found[1], found[2], found[3]}, settings[0]);
        int set = 0;
        for (int zone = 0; zone < 3; zone++) {
            if (at != null && inside(polygons.get(zone), at)) set += 1 << zone;
        }
        return set;
    }

    public int reach(int zone, int resistance) {
        if (zone < 0 || zone > 2) return NO_SUCH;
        if (!between(resistance, 0, 20000)) return BAD_VALUE;
        int place = -1;
        while (place < 1000) {
            int set = covers(place + 1, resistance);
            if (set < 0 || (set & 1 << zone) == 0) break;
            place++;
        }
        return place < 0 ? NONE : place;
    }

    public int test(int place, int resistance, int samples, int what) {
        if (!between(place, 0, 1000) || !between(resistance, 0, 20000)) return BAD_VALUE;
        if (!between(samples, 1, 2400) || !between(what, 0, 1)) return BAD_VALUE;
        if (solve(place, resistance) == null || solve(-1, 0) == null) return NOT_POSSIBLE;
        Model twin = twin();
        twin.reset();
        twin.healthy();
        for (int i = 0; i < 48; i++) {
            twin.sample();
        }
        int passed = 0;
        if (twin.trippedBy == NONE) {
            twin.fault(place, resistance);
            while (passed < samples && twin.trippedBy == NONE) {
                twin.sample();
                passed++;
            }
        }
        if (twin.trippedBy == NONE) return NONE;
        return what == 0 ? passed : twin.trippedBy;
    }

    public int forecast(int samples) {
        if (!between(samples, 1, 5000)) return BAD_VALUE;
        Model twin = twin();
        for (int passed = 0; passed < samples; passed++) {
            if (twin.trippedBy != NONE) return passed;
            twin.sample();
        }
        return twin.trippedBy == NONE ? NONE : samples;
    }

    // ---- texts

    public int say(int character) {
        if (!between(character, 33, 126)) return BAD_VALUE;
        if (pad.length() == 80) return TOO_MANY;
        pad += (char) character;
        return pad.length();
    }

    public int wipe() {
        int had = pad.length();
        pad = "";
        return had;
    }

    public int flaw() {
        for (int i = 1; i <= pad.length(); i++) {
            Matcher matcher = POLYGON.matcher(pad.substring(0, i));
            if (!matcher.matches() && !matcher.hitEnd()) return i - 1;
        }
        return POLYGON.matcher(pad).matches() ? NONE : pad.length();
    }

    public int load(int polygon) {
        if (polygon < 0 || polygon > 4) return NO_SUCH;
        if (!POLYGON.matcher(pad).matches()) return BAD_TEXT;
        List<int[]> corners = new ArrayList<>();
        for (String corner : pad.split("/")) {
            String[] numbers = corner.split(",");
            corners.add(new int[] {Integer.parseInt(numbers[0]), Integer.parseInt(numbers[1])});
        }
        polygons.set(polygon, corners);
        pad = "";
        return corners.size();
    }

    public int spell(int polygon, int index) {
        if (polygon < 0 || polygon > 4) return NO_SUCH;
        List<String> texts = new ArrayList<>();
        for (int[] corner : polygons.get(polygon)) {
            texts.add(corner[0] + "," + corner[1]);
        }
        String text = String.join("/", texts);
        if (index == -1) return text.length();
        return index < 0 || index >= text.length() ? NONE : text.charAt(index);
    }

    // ---- saving

    public int count(int what) {
        if (!between(what, 0, 17)) return BAD_VALUE;
        int[] numbers = {
            time, events.size(), pad.length(), parts[0][0], parts[1][0], parts[1][1],
            parts[2][0], parts[2][1], parts[3][0], parts[3][1]
        };
        return what < 10 ? numbers[what] : settings[what - 10];
    }

    public int save(int slot) {
        if (slot != 0 && slot != 1) return BAD_VALUE;
        slots[slot] = twin();
        return time;
    }

    public int restore(int slot) {
        if (slot != 0 && slot != 1) return BAD_VALUE;
        if (slots[slot] == null) return NOT_POSSIBLE;
        take(slots[slot]);
        return time;
    }

    private static boolean between(int value, int lowest, int highest) {
        return value >= lowest && value <= highest;
    }
}
