import java.lang.reflect.Method;
import java.util.HashMap;
import java.util.Map;
import java.util.Random;
import java.util.TreeMap;

/** Random runs of calls, with fixed seeds, on a ZoneRelay and on the model: they answer alike. */
public final class ModelTest {
    private static final Due due = new Due();
    private static final int RUNS = 400;
    private static final int STEPS = 90;
    private static final Map<String, Method> RELAY = methodsOf(ZoneRelay.class);
    private static final Map<String, Method> MODEL = methodsOf(Model.class);

    private final Random random;
    private final ZoneRelay relay = new ZoneRelay();
    private final Model model = new Model();
    private final StringBuilder story = new StringBuilder();
    private static final TreeMap<String, Integer> seen = new TreeMap<>();

    private ModelTest(long seed) {
        random = new Random(seed);
        story.append("seed ").append(seed).append(':');
    }

    private static Map<String, Method> methodsOf(Class<?> type) {
        Map<String, Method> methods = new HashMap<>();
        for (Method method : type.getMethods()) {
            methods.put(method.getName(), method);
        }
        return methods;
    }

    public static void main(String[] args) throws Exception {
        for (int seed = 0; seed < RUNS; seed++) {
            new ModelTest(seed).play();
        }
        // Without these the comparison would say little.
        String[] wanted = {
            "event 10", "event 11", "event 12", "event 20", "event 21", "event 22", "event 30", "event 31", "event 32",
            "event 40", "event 41", "in load", "swing", "impedance", "memory old", "sound 0", "sound 1", "sound 2", "sound 3",
            "loaded", "flawless", "test hit", "test zone", "forecast hit", "reach", "covers", "log full"
        };
        for (String want : wanted) {
            due.holds("'" + want + "' comes up often enough in " + seen, seen.getOrDefault(want, 0) >= 20);
        }
        due.finish();
    }

    private long call(String name, int... arguments) throws Exception {
        Object[] boxed = new Object[arguments.length];
        StringBuilder said = new StringBuilder(name).append('(');
        for (int i = 0; i < arguments.length; i++) {
            boxed[i] = arguments[i];
            said.append(i == 0 ? "" : ", ").append(arguments[i]);
        }
        said.append(')');
        long want = ((Number) MODEL.get(name).invoke(model, boxed)).longValue();
        long got = ((Number) RELAY.get(name).invoke(relay, boxed)).longValue();
        due.is(got == want ? name : story + " " + said, want, got);
        note(name, arguments, want);
        story.append(' ').append(said).append(';');
        return want;
    }

    /** Asks without a place in the story, since asking changes nothing. */
    private long ask(String name, int... arguments) throws Exception {
        int length = story.length();
        long answer = call(name, arguments);
        story.setLength(length);
        return answer;
    }

    private static void tally(String what) {
        seen.merge(what, 1, Integer::sum);
    }

    private static void note(String name, int[] arguments, long answer) {
        switch (name) {
            case "event": if (arguments[1] == 1 && answer > 0) tally("event " + answer); break;
            case "sound": if (answer >= 0) tally("sound " + answer); break;
            case "load": if (answer > 0) tally("loaded"); break;
            case "flaw": if (answer == -6) tally("flawless"); break;
            case "test": if (answer > 0) tally(arguments[3] == 0 ? "test hit" : "test zone"); break;
            case "forecast": if (answer > 0) tally("forecast hit"); break;
            case "reach": if (answer > 0 && answer < 1000) tally("reach"); break;
            case "covers": if (answer > 0) tally("covers"); break;
            case "measure":
                if (arguments[0] == 12 && answer == 1) tally("in load");
                if (arguments[0] == 11 && answer == 1) tally("swing");
                if (arguments[0] == 7 && answer == 1) tally("impedance");
                if (arguments[0] == 6 && answer > 60) tally("memory old");
                break;
            case "count": if (arguments[0] == 1 && answer > 60) tally("log full"); break;
            default: break;
        }
    }

    private void play() throws Exception {
        if (random.nextInt(4) > 0) {
            prepare();
        }
        for (int step = 0; step < STEPS; step++) {
            act(random.nextInt(36));
            if (step % 6 == 0) {
                lookAtAll();
            }
        }
        lookAtAll();
    }

    /** Makes a relay of which something can come. */
    private void prepare() throws Exception {
        for (int polygon = 0; polygon < 5; polygon++) {
            box(polygon, polygon == 4 ? 3000 + random.nextInt(17000) : 300 + random.nextInt(4000));
        }
        for (int zone = 0; zone < 3; zone++) {
            call("zone", zone, 1 + random.nextInt(40), random.nextInt(3));
        }
        call("set", 6, 1 + random.nextInt(12));
        call("set", 7, random.nextInt(8));
    }

    private void act(int kind) throws Exception {
        switch (kind) {
            case 0: call("corner", edge(0, 4), coordinate(), coordinate()); break;
            case 1: call("clear", edge(0, 4)); break;
            case 2: case 3: box(random.nextInt(5), 200 + random.nextInt(6000)); break;
            case 4: star(random.nextInt(5)); break;
            case 5: ring(random.nextInt(5)); break;
            case 6: case 7: changeSetting(); break;
            case 8: call("zone", edge(0, 2), random.nextInt(3) > 0 ? 1 + random.nextInt(60) : edge(1, 2400), edge(0, 2)); break;
            case 9: case 10: case 11: impedanceTo(false); break;
            case 12: case 13: impedanceTo(true); break;
            case 14: call("apply", coordinate(), coordinate(), coordinate(), coordinate()); break;
            case 15: call("ramp", edge(1, 2400), coordinate(), coordinate(), coordinate(), coordinate()); break;
            case 16: changeNetwork(); break;
            case 17: call("fault", place(), resistance()); break;
            case 18: call("healthy"); break;
            case 19: case 20: case 21: case 22: case 23: call("pass", 1 + random.nextInt(random.nextBoolean() ? 12 : 60)); break;
            case 24: call("pass", random.nextInt(8) == 0 ? edge(1, 5000) : 1 + random.nextInt(300)); break;
            case 25: call("reset"); break;
            case 26: call("covers", place(), resistance()); call("reach", edge(0, 2), resistance()); break;
            case 27: tryFault(); break;
            case 28: call("forecast", random.nextInt(6) == 0 ? edge(1, 5000) : 1 + random.nextInt(200)); break;
            case 29: case 30: write(); break;
            case 31: call("load", edge(0, 4)); break;
            case 32: call("save", edge(0, 1)); break;
            case 33: call("restore", edge(0, 1)); break;
            case 34: chatter(); break;
            default: standOnEdges(); break;
        }
    }

    private int edge(int lowest, int highest) {
        switch (random.nextInt(12)) {
            case 0: return lowest;
            case 1: return highest;
            case 2: return random.nextInt(3) == 0 ? lowest - 1 : lowest;
            case 3: return random.nextInt(3) == 0 ? highest + 1 : highest;
            case 4:
                int[] far = {Integer.MIN_VALUE, Integer.MAX_VALUE, -1, 1000, -1000};
                return random.nextInt(4) == 0 ? far[random.nextInt(far.length)] : lowest;
            default: return lowest + random.nextInt(highest - lowest + 1);
        }
    }

    private int coordinate() {
        return random.nextInt(3) == 0 ? edge(-20000, 20000) : random.nextInt(8001) - 4000;
    }

    private int place() {
        return edge(0, 1000);
    }

    private int resistance() {
        return random.nextInt(2) == 0 ? random.nextInt(3000) : edge(0, 20000);
    }

    private void box(int polygon, int half) throws Exception {
        int x = random.nextInt(1201) - 600;
        int y = random.nextInt(1201) - 600;
        int flat = half / (1 + random.nextInt(3));
        call("clear", polygon);
        call("corner", polygon, limit(x - half), limit(y - flat));
        call("corner", polygon, limit(x + half), limit(y - flat));
        call("corner", polygon, limit(x + half), limit(y + flat));
        call("corner", polygon, limit(x - half), limit(y + flat));
    }

    private static int limit(int value) {
        return Math.max(-20000, Math.min(20000, value));
    }

    /** Corners around a circle, some of them twice around or the wrong way. */
    private void star(int polygon) throws Exception {
        int corners = 3 + random.nextInt(6);
        int stride = 1 + random.nextInt(corners - 1);
        polygonOf(polygon, corners, stride, random.nextInt(5000) + 2);
    }

    private void ring(int polygon) throws Exception {
        polygonOf(polygon, 3 + random.nextInt(6), 1, 100 + random.nextInt(19000));
    }

    private void polygonOf(int polygon, int corners, int stride, int radius) throws Exception {
        double turn = random.nextInt(4) == 0 ? 0 : random.nextDouble() * 7;
        call("clear", polygon);
        for (int i = 0; i < corners; i++) {
            double angle = turn + 2 * Math.PI * i * stride / corners;
            call("corner", polygon, (int) Math.round(radius * Math.cos(angle)), (int) Math.round(radius * Math.sin(angle)));
        }
    }

    private void changeSetting() throws Exception {
        int setting = edge(0, 7);
        int[][] ranges = {{1, 20000}, {0, 20000}, {0, 1000}, {0, 20000}, {0, 10000}, {0, 7}, {1, 1000}, {0, 7}};
        int[] smalls = {300, 3000, 60, 3000, 3000, 8, 12, 8};
        boolean known = setting >= 0 && setting <= 7;
        if (known && random.nextInt(3) > 0) {
            call("set", setting, ranges[setting][0] + random.nextInt(smalls[setting]) % (ranges[setting][1] + 1));
        } else {
            int row = known ? setting : 0;
            call("set", setting, edge(ranges[row][0], ranges[row][1]));
        }
    }

    private void changeNetwork() throws Exception {
        int part = edge(0, 3);
        boolean isVoltage = part == 0;
        int r = random.nextInt(3) == 0 ? edge(0, 20000) : random.nextInt(4000) + (isVoltage ? 4000 : 0);
        int x = isVoltage ? (random.nextInt(6) == 0 ? random.nextInt(3) - 1 : 0) : random.nextInt(3) == 0 ? edge(0, 20000) : random.nextInt(4000);
        call("network", part, r, x);
    }

    /** Phasors whose impedance is somewhere near the polygons. */
    private void impedanceTo(boolean slowly) throws Exception {
        double size = random.nextDouble() * random.nextDouble() * 8;
        double angle = random.nextDouble() * 2 * Math.PI;
        double amps = 20 + random.nextInt(4000);
        double turn = random.nextDouble() * 2 * Math.PI;
        int va = limit((int) (amps * size * Math.cos(angle + turn)));
        int vb = limit((int) (amps * size * Math.sin(angle + turn)));
        int ia = (int) (amps * Math.cos(turn));
        int ib = (int) (amps * Math.sin(turn));
        if (slowly) {
            call("ramp", 1 + random.nextInt(120), va, vb, ia, ib);
        } else {
            call("apply", va, vb, ia, ib);
        }
        call("pass", 1 + random.nextInt(50));
    }

    /** Goes in and out of the zones many times, so that the log runs over. */
    private void chatter() throws Exception {
        int amps = 500 + random.nextInt(2000);
        for (int i = 0; i < 12; i++) {
            int far = random.nextInt(3) * 10;
            call("apply", limit(amps * far), limit(amps * (random.nextInt(3) - 1)), amps, 0);
            call("pass", 15 + random.nextInt(20));
            if (random.nextInt(6) == 0) {
                call("reset");
            }
        }
    }

    /** Sets limits to just what is measured, or one beside it. */
    private void standOnEdges() throws Exception {
        int amps = 100 + random.nextInt(3000);
        int volts = random.nextInt(2) == 0 ? amps * (1 + random.nextInt(5)) : random.nextInt(19000);
        boolean isTurned = random.nextBoolean();
        int sign = random.nextBoolean() ? 1 : -1;
        call("apply", isTurned ? 0 : limit(sign * volts), isTurned ? limit(sign * volts) : 0, isTurned ? 0 : amps, isTurned ? amps : 0);
        call("pass", 25 + random.nextInt(24));
        call("set", 0, besides(ask("measure", isTurned ? 3 : 2)));
        call("set", 1, besides(ask("measure", isTurned ? 1 : 0)));
        call("set", 3, besides(ask("measure", 8)));
        int zone = random.nextInt(5);
        box(zone, 4000);
        call("clear", zone);
        int right = limit(besides(ask("measure", 8)));
        int top = Math.max(-19000, limit(besides(ask("measure", 9))));
        call("corner", zone, -20000, -20000);
        call("corner", zone, right, -20000);
        call("corner", zone, right, top);
        call("corner", zone, -20000, top);
        call("pass", 1);
        lookAtAll();
    }

    private int besides(long value) {
        return value < -100000 ? 0 : (int) value + random.nextInt(3) - 1;
    }

    private void tryFault() throws Exception {
        int place = place();
        int resistance = resistance();
        int samples = random.nextInt(5) == 0 ? edge(1, 2400) : 1 + random.nextInt(100);
        call("test", place, resistance, samples, 0);
        call("test", place, resistance, samples, 1);
        call("test", place, resistance, 50, edge(0, 1));
    }

    private void write() throws Exception {
        if (random.nextInt(3) > 0) {
            call("wipe");
        }
        StringBuilder text = new StringBuilder();
        int corners = 1 + random.nextInt(random.nextInt(3) == 0 ? 10 : 5);
        for (int i = 0; i < corners; i++) {
            text.append(i == 0 ? "" : "/").append(number()).append(',').append(number());
        }
        if (random.nextInt(2) == 0) {
            String signs = "0123456789,/-,/-0209x!~ ";
            int place = random.nextInt(text.length());
            char sign = signs.charAt(random.nextInt(signs.length()));
            switch (random.nextInt(4)) {
                case 0: text.setCharAt(place, sign); break;
                case 1: text.insert(place, sign); break;
                case 2: text.deleteCharAt(place); break;
                default: text.setLength(place); break;
            }
        }
        for (int i = 0; i < text.length(); i++) {
            call("say", text.charAt(i));
            ask("flaw");
        }
    }

    private String number() {
        String[] special = {"0", "-0", "20000", "-20000", "1", "9", "10000", "19999", "-1"};
        switch (random.nextInt(4)) {
            case 0: return special[random.nextInt(special.length)];
            case 1: return String.valueOf(random.nextInt(40001) - 20000);
            default: return String.valueOf(random.nextInt(200) - 100);
        }
    }

    private void lookAtAll() throws Exception {
        for (int what = -1; what <= 18; what++) {
            ask("count", what);
            ask("measure", what);
            ask("phasor", what);
        }
        for (int zone = -1; zone <= 3; zone++) {
            for (int what = -1; what <= 5; what++) {
                ask("state", zone, what);
            }
        }
        ask("tripped");
        ask("flaw");
        for (int polygon = -1; polygon <= 5; polygon++) {
            lookAtPolygon(polygon);
        }
        long events = ask("count", 1);
        for (long event = events - 62; event <= events; event++) {
            ask("event", (int) event, 0);
            ask("event", (int) event, 1);
        }
        ask("event", edge(0, 5), edge(0, 1));
    }

    private void lookAtPolygon(int polygon) throws Exception {
        ask("sound", polygon);
        for (int index = -1; index <= 8; index++) {
            ask("at", polygon, index, 0);
            ask("at", polygon, index, 1);
        }
        ask("at", polygon, edge(0, 7), edge(0, 1));
        long length = ask("spell", polygon, -1);
        for (int index = -2; index <= length; index++) {
            ask("spell", polygon, index);
        }
        for (int i = 0; i < 4; i++) {
            ask("contains", polygon, coordinate(), coordinate());
        }
        ask("contains", polygon, edge(-100000, 100000), edge(-100000, 100000));
    }
}
