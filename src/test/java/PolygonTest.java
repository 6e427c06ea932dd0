/** Promises 1 to 6: a new object, corner, clear, at, sound and contains. */
public final class PolygonTest {
    private static final Due due = new Due();

    public static void main(String[] args) {
        promise1ANewObject();
        promise2Corner();
        promise3Clear();
        promise4At();
        promise5Sound();
        promise5Stars();
        promise5AnyCornerFirst();
        promise6Contains();
        promise6UnsoundContainsNothing();
        promise6LargeNumbers();
        due.finish();
    }

    private static void promise1ANewObject() {
        ZoneRelay relay = new ZoneRelay();
        long[] counts = {0, 0, 0, 10000, 100, 1000, 500, 3000, 20000, 5000, 100, 1000, 48, 20000, 500, 0, 24, 0};
        for (int what = 0; what < counts.length; what++) {
            due.is("new: count(" + what + ")", counts[what], relay.count(what));
        }
        for (int what = 0; what <= 12; what++) {
            due.is("new: measure(" + what + ")", what == 8 || what == 9 ? ZoneRelay.GONE + ZoneRelay.NONE : 0, relay.measure(what));
        }
        for (int what = 0; what <= 4; what++) {
            due.is("new: phasor(" + what + ")", 0, relay.phasor(what));
        }
        int[] delays = {4, 480, 1200};
        for (int zone = 0; zone < 3; zone++) {
            due.is("new: picked up", 0, relay.state(zone, 0));
            due.is("new: timer", 0, relay.state(zone, 1));
            due.is("new: left", delays[zone], relay.state(zone, 2));
            due.is("new: delay", delays[zone], relay.state(zone, 3));
            due.is("new: direction", ZoneRelay.FORWARD, relay.state(zone, 4));
        }
        due.is("new: tripped()", ZoneRelay.NONE, relay.tripped());
        due.is("new: event(0, 0)", ZoneRelay.NONE, relay.event(0, 0));
        due.is("new: restore(0)", ZoneRelay.NOT_POSSIBLE, relay.restore(0));
        due.is("new: restore(1)", ZoneRelay.NOT_POSSIBLE, relay.restore(1));
        for (int polygon = 0; polygon < 5; polygon++) {
            due.is("new: sound(" + polygon + ")", 1, relay.sound(polygon));
            due.is("new: clear(" + polygon + ")", 0, relay.clear(polygon));
        }
    }

    private static void promise2Corner() {
        ZoneRelay relay = new ZoneRelay();
        for (int polygon = 0; polygon < 5; polygon++) {
            for (int n = 1; n <= 8; n++) {
                due.is("corner " + n, n, relay.corner(polygon, n, -n));
            }
            due.is("a ninth corner", ZoneRelay.TOO_MANY, relay.corner(polygon, 0, 0));
            due.is("a wrong coordinate comes before too many", ZoneRelay.BAD_VALUE, relay.corner(polygon, 0, 20001));
            due.is("its last corner stays", 100008, relay.at(polygon, 7, 0));
        }
        due.is("corner(-1, ..)", ZoneRelay.NO_SUCH, relay.corner(-1, 0, 0));
        due.is("corner(5, ..)", ZoneRelay.NO_SUCH, relay.corner(5, 0, 0));
        due.is("no polygon comes before a wrong coordinate", ZoneRelay.NO_SUCH, relay.corner(5, 20001, 0));
        due.is("clear(0)", 8, relay.clear(0));
        due.is("x 20001", ZoneRelay.BAD_VALUE, relay.corner(0, 20001, 0));
        due.is("x -20001", ZoneRelay.BAD_VALUE, relay.corner(0, -20001, 0));
        due.is("y 20001", ZoneRelay.BAD_VALUE, relay.corner(0, 0, 20001));
        due.is("y -20001", ZoneRelay.BAD_VALUE, relay.corner(0, 0, -20001));
        due.is("x of the least int", ZoneRelay.BAD_VALUE, relay.corner(0, Integer.MIN_VALUE, 0));
        due.is("the greatest numbers", 1, relay.corner(0, 20000, -20000));
        due.is("the least numbers", 2, relay.corner(0, -20000, 20000));
    }

    private static void promise3Clear() {
        ZoneRelay relay = new ZoneRelay();
        Shapes.box(relay, 2, 0, 0, 10, 10);
        Shapes.box(relay, 3, 0, 0, 10, 10);
        due.is("clear(-1)", ZoneRelay.NO_SUCH, relay.clear(-1));
        due.is("clear(5)", ZoneRelay.NO_SUCH, relay.clear(5));
        due.is("clear(2)", 4, relay.clear(2));
        due.is("clear(2) again", 0, relay.clear(2));
        due.is("it has no corners", ZoneRelay.NO_SUCH, relay.at(2, 0, 0));
        due.is("it is not sound any more", 1, relay.sound(2));
        due.is("it contains nothing", 0, relay.contains(2, 5, 5));
        due.is("other polygons stay", 0, relay.sound(3));
        due.is("corners come again", 1, relay.corner(2, 7, 8));
        due.is("from the first one on", 100007, relay.at(2, 0, 0));
    }

    private static void promise4At() {
        ZoneRelay relay = new ZoneRelay();
        Shapes.corners(relay, 4, 20000, -20000, -1, 0);
        due.is("at(4, 0, 0)", 120000, relay.at(4, 0, 0));
        due.is("at(4, 0, 1)", 80000, relay.at(4, 0, 1));
        due.is("at(4, 1, 0)", 99999, relay.at(4, 1, 0));
        due.is("at(4, 1, 1)", 100000, relay.at(4, 1, 1));
        due.is("at(4, 2, 0)", ZoneRelay.NO_SUCH, relay.at(4, 2, 0));
        due.is("at(4, -1, 0)", ZoneRelay.NO_SUCH, relay.at(4, -1, 0));
        due.is("at(4, 2, 2)", ZoneRelay.NO_SUCH, relay.at(4, 2, 2));
        due.is("at(4, 1, 2)", ZoneRelay.BAD_VALUE, relay.at(4, 1, 2));
        due.is("at(4, 1, -1)", ZoneRelay.BAD_VALUE, relay.at(4, 1, -1));
        due.is("at(5, 0, 0)", ZoneRelay.NO_SUCH, relay.at(5, 0, 0));
        due.is("at(-1, 0, 9)", ZoneRelay.NO_SUCH, relay.at(-1, 0, 9));
        due.is("at(3, 0, 0)", ZoneRelay.NO_SUCH, relay.at(3, 0, 0));
        due.is("at(4, greatest int, 0)", ZoneRelay.NO_SUCH, relay.at(4, Integer.MAX_VALUE, 0));
    }

    private static void soundness(String what, int want, int... xy) {
        ZoneRelay relay = new ZoneRelay();
        Shapes.corners(relay, 1, xy);
        due.is(what, want, relay.sound(1));
    }

    private static void promise5Sound() {
        soundness("no corner", 1);
        soundness("a corner", 1, 0, 0);
        soundness("two corners", 1, 0, 0, 10, 0);
        soundness("a triangle to the left", 0, 0, 0, 10, 0, 0, 10);
        soundness("a triangle to the right", 2, 0, 0, 0, 10, 10, 0);
        soundness("three corners in a line", 2, 0, 0, 10, 0, 20, 0);
        soundness("a corner in an edge", 2, 0, 0, 5, 0, 10, 0, 0, 10);
        soundness("the last corner is in the edge to the first one", 2, 0, 0, 10, 0, 0, 10, 0, 5);
        soundness("the first corner is in an edge", 2, 5, 0, 10, 0, 0, 10, 0, 0);
        soundness("a corner twice", 2, 0, 0, 10, 0, 10, 0, 0, 10);
        soundness("the first corner at the end again", 2, 0, 0, 10, 0, 0, 10, 0, 0);
        soundness("a dent", 2, 0, 0, 10, 0, 10, 10, 5, 5, 0, 10);
        soundness("eight corners", 0, 1, 0, 2, 0, 3, 1, 3, 2, 2, 3, 1, 3, 0, 2, 0, 1);
        soundness("the greatest box", 0, -20000, -20000, 20000, -20000, 20000, 20000, -20000, 20000);
        soundness("the greatest box to the right", 2, -20000, -20000, -20000, 20000, 20000, 20000, 20000, -20000);
        soundness("a thin triangle", 0, -20000, -20000, 20000, 19999, 19999, 19999);
        ZoneRelay relay = new ZoneRelay();
        due.is("sound(-1)", ZoneRelay.NO_SUCH, relay.sound(-1));
        due.is("sound(5)", ZoneRelay.NO_SUCH, relay.sound(5));
    }

    private static void promise5Stars() {
        soundness("a star that goes around twice", 3, 1000, 0, -809, 588, 309, -951, 309, 951, -809, -588);
        soundness("a star with a step of equal y", 3, 0, 1000, -588, -809, 951, 309, -951, 309, 588, -809);
        soundness("the same star to the right", 2, 588, -809, -951, 309, 951, 309, -588, -809, 0, 1000);
        soundness("eight corners three times around", 3, 1000, 0, -707, 707, 0, -1000, 707, 707, -1000, 0, 707, -707, 0, 1000, -707, -707);
        soundness("a square twice around", 3, 0, 0, 10, 0, 10, 10, 0, 10, 0, 0, 10, 0, 10, 10, 0, 10);
    }

    private static void anyCornerFirst(String what, int want, int... xy) {
        for (int first = 0; first < xy.length; first += 2) {
            int[] turned = new int[xy.length];
            for (int i = 0; i < xy.length; i++) {
                turned[i] = xy[(first + i) % xy.length];
            }
            soundness(what + " from its corner " + first / 2, want, turned);
        }
    }

    private static void promise5AnyCornerFirst() {
        anyCornerFirst("a triangle", 0, 0, 0, 10, 3, 0, 10);
        anyCornerFirst("a triangle with a flat edge", 0, 0, 0, 10, 0, 0, 10);
        anyCornerFirst("a box", 0, 0, 0, 10, 0, 10, 10, 0, 10);
        anyCornerFirst("eight corners", 0, 1, 0, 2, 0, 3, 1, 3, 2, 2, 3, 1, 3, 0, 2, 0, 1);
        anyCornerFirst("a star", 3, 1000, 0, -809, 588, 309, -951, 309, 951, -809, -588);
        anyCornerFirst("a star with a flat edge", 3, 0, 1000, -588, -809, 951, 309, -951, 309, 588, -809);
        anyCornerFirst("a dent", 2, 0, 0, 10, 0, 10, 10, 5, 5, 0, 10);
        anyCornerFirst("a corner in an edge", 2, 0, 0, 5, 0, 10, 0, 0, 10);
    }

    private static void contained(ZoneRelay relay, int want, int x, int y) {
        due.is("contains(0, " + x + ", " + y + ")", want, relay.contains(0, x, y));
    }

    private static void promise6Contains() {
        ZoneRelay relay = new ZoneRelay();
        Shapes.corners(relay, 0, -10, -10, 30, -10, 10, 10, -10, 10);
        contained(relay, 1, 0, 0);
        contained(relay, 1, -10, -10);
        contained(relay, 1, 30, -10);
        contained(relay, 1, 20, 0);
        contained(relay, 0, 21, 0);
        contained(relay, 0, 20, 1);
        contained(relay, 0, 0, 11);
        contained(relay, 1, 0, 10);
        contained(relay, 1, -10, 0);
        contained(relay, 0, -11, 0);
        contained(relay, 0, 0, -11);
        contained(relay, 0, 31, -10);
        contained(relay, 0, -11, -10);
        due.is("x 100000", 0, relay.contains(0, 100000, -100000));
        due.is("x 100001", ZoneRelay.BAD_VALUE, relay.contains(0, 100001, 0));
        due.is("x -100001", ZoneRelay.BAD_VALUE, relay.contains(0, -100001, 0));
        due.is("y 100001", ZoneRelay.BAD_VALUE, relay.contains(0, 0, 100001));
        due.is("y -100001", ZoneRelay.BAD_VALUE, relay.contains(0, 0, -100001));
        due.is("contains(5, ..)", ZoneRelay.NO_SUCH, relay.contains(5, 100001, 0));
        due.is("contains(-1, ..)", ZoneRelay.NO_SUCH, relay.contains(-1, 0, 0));
    }

    private static void promise6UnsoundContainsNothing() {
        ZoneRelay relay = new ZoneRelay();
        Shapes.corners(relay, 0, 0, 0, 10, 0);
        contained(relay, 0, 5, 0);
        Shapes.corners(relay, 0, 0, 0, 0, 10, 10, 10, 10, 0);
        contained(relay, 0, 5, 5);
        Shapes.corners(relay, 0, 1000, 0, -809, 588, 309, -951, 309, 951, -809, -588);
        contained(relay, 0, 0, 0);
        Shapes.corners(relay, 0, 0, 0, 5, 0, 10, 0, 0, 10);
        contained(relay, 0, 2, 2);
    }

    private static void promise6LargeNumbers() {
        ZoneRelay relay = new ZoneRelay();
        Shapes.box(relay, 0, -20000, -20000, 20000, 20000);
        contained(relay, 1, 20000, 20000);
        contained(relay, 1, -20000, 20000);
        contained(relay, 0, 20001, 20000);
        contained(relay, 0, 100000, 100000);
        contained(relay, 0, -100000, -100000);
        contained(relay, 0, 100000, 0);
        contained(relay, 0, 0, -100000);
        Shapes.corners(relay, 0, -20000, -20000, 20000, 19999, 19999, 19999);
        contained(relay, 1, 19999, 19999);
        contained(relay, 1, 0, 0);
        contained(relay, 0, 0, -1);
        contained(relay, 0, 0, 1);
        contained(relay, 0, 1, 0);
    }
}
