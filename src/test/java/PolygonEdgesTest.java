import java.util.Arrays;

/** Boundary cases of POLYGONS and of the promises 1 to 6. */
public final class PolygonEdgesTest {
    private static final Edges edges = new Edges();
    private static final Due due = edges.due;
    private static final int[] OCTAGON = {1, 0, 2, 0, 3, 1, 3, 2, 2, 3, 1, 3, 0, 2, 0, 1};
    private static final int[] STAR = {1000, 0, -809, 588, 309, -951, 309, 951, -809, -588};
    private static final int[] STAR_WITH_FLAT_STEP = {0, 1000, -588, -809, 951, 309, -951, 309, 588, -809};
    private static final int[] STAR_OF_EIGHT = {1000, 0, -707, 707, 0, -1000, 707, 707, -1000, 0, 707, -707, 0, 1000, -707, -707};

    public static void main(String[] args) {
        polygons();
        turns();
        rounds();
        pointsOnEdges();
        unsoundPolygons();
        newObject();
        corner();
        cornerFull();
        clear();
        at();
        atIndex();
        sound();
        contains();
        edges.finish("POLYGONS", "1", "2", "3", "4", "5", "6");
    }

    private static ZoneRelay with(int polygon, int... xy) {
        ZoneRelay relay = new ZoneRelay();
        Shapes.corners(relay, polygon, xy);
        return relay;
    }

    private static int[] firstCorners(int corners, int... xy) {
        return Arrays.copyOf(xy, 2 * corners);
    }

    private static void isSound(String what, int want, int... xy) {
        due.is(what, want, with(2, xy).sound(2));
    }

    /** The same polygon, told from each of its corners on. */
    private static void isSoundFromAnyCorner(String what, int want, int... xy) {
        for (int first = 0; first < xy.length; first += 2) {
            int[] turned = new int[xy.length];
            for (int i = 0; i < xy.length; i++) {
                turned[i] = xy[(first + i) % xy.length];
            }
            isSound(what + ", from its corner " + first / 2, want, turned);
        }
    }

    /** The points of a picture, its lowest line last, its left lower sign at (-1, -1): # is contained, . is not. */
    private static void looksLike(int[] xy, String... picture) {
        ZoneRelay relay = with(0, xy);
        for (int line = 0; line < picture.length; line++) {
            for (int column = 0; column < picture[line].length(); column++) {
                int x = column - 1;
                int y = picture.length - line - 2;
                due.is("contains(0, " + x + ", " + y + ")", picture[line].charAt(column) == '#' ? 1 : 0, relay.contains(0, x, y));
            }
        }
    }

    // ---- POLYGONS

    private static void polygons() {
        edges.test("POLYGONS: there are five, 0 to 2, INNER (3) and OUTER (4)", () -> {
            ZoneRelay relay = new ZoneRelay();
            due.is("INNER", 3, ZoneRelay.INNER);
            due.is("OUTER", 4, ZoneRelay.OUTER);
            for (int polygon = 0; polygon < 5; polygon++) {
                due.is("a first corner", 1, relay.corner(polygon, 10 * polygon, -polygon));
            }
            for (int polygon = 0; polygon < 5; polygon++) {
                due.is("x is its own", 100000 + 10 * polygon, relay.at(polygon, 0, 0));
                due.is("y is its own", 100000 - polygon, relay.at(polygon, 0, 1));
                due.is("no second corner", ZoneRelay.NO_SUCH, relay.at(polygon, 1, 0));
            }
        });
        edges.test("POLYGONS: up to 8 corners", () -> {
            ZoneRelay relay = with(1, OCTAGON);
            for (int i = 0; i < 8; i++) {
                due.is("x of " + i, 100000 + OCTAGON[2 * i], relay.at(1, i, 0));
                due.is("y of " + i, 100000 + OCTAGON[2 * i + 1], relay.at(1, i, 1));
            }
        });
        edges.test("POLYGONS: coordinates from -20000 to 20000", () -> {
            ZoneRelay relay = with(1, -20000, 20000, 20000, -20000);
            due.is("the least x", 80000, relay.at(1, 0, 0));
            due.is("the greatest y", 120000, relay.at(1, 0, 1));
            due.is("the greatest x", 120000, relay.at(1, 1, 0));
            due.is("the least y", 80000, relay.at(1, 1, 1));
        });
        edges.test("POLYGONS: sound with at least 3 corners", () -> {
            for (int corners = 0; corners <= 8; corners++) {
                isSound(corners + " corners", corners < 3 ? 1 : 0, firstCorners(corners, OCTAGON));
            }
        });
    }

    private static void turns() {
        edges.test("POLYGONS: turns left if the product is greater than 0, if only by 1", () -> {
            isSoundFromAnyCorner("1 at each corner", 0, 0, 0, 1, 0, 0, 1);
            isSoundFromAnyCorner("1 at one corner", 0, 0, 0, 3, 1, 5, 2, 0, 9);
            isSoundFromAnyCorner("1 of large numbers", 0, -20000, -20000, 19999, 20000, 19998, 19999);
        });
        edges.test("POLYGONS: does not turn left if the product is 0", () -> {
            isSoundFromAnyCorner("a corner in an edge", 2, 0, 0, 2, 1, 4, 2, 0, 9);
            isSoundFromAnyCorner("three corners in a line", 2, 0, 0, 1, 1, 3, 3);
            isSoundFromAnyCorner("0 of large numbers", 2, -20000, -20000, 0, 0, 20000, 20000);
            isSoundFromAnyCorner("a corner twice", 2, 0, 0, 10, 0, 10, 0, 0, 10);
            isSoundFromAnyCorner("all corners in a point", 2, 7, 7, 7, 7, 7, 7);
        });
        edges.test("POLYGONS: does not turn left if the product is -1", () -> {
            isSoundFromAnyCorner("-1 at one corner", 2, 0, 0, 2, 1, 3, 1, 5, 3, 0, 9);
            isSoundFromAnyCorner("-1 at each corner", 2, 0, 0, 0, 1, 1, 0);
            isSoundFromAnyCorner("-1 of large numbers", 2, -20000, -20000, 19998, 19999, 19999, 20000);
        });
        edges.test("POLYGONS: at each three successive corners, also around the end", () -> {
            for (int dent = 0; dent < 8; dent++) {
                int[] dented = OCTAGON.clone();
                dented[2 * dent] = 1;
                dented[2 * dent + 1] = 1;
                isSound("the corner " + dent + " is moved in", 2, dented);
            }
        });
        edges.test("POLYGONS: turns of the greatest polygons", () -> {
            isSoundFromAnyCorner("the greatest box", 0, -20000, -20000, 20000, -20000, 20000, 20000, -20000, 20000);
            isSoundFromAnyCorner("the greatest box to the right", 2, -20000, 20000, 20000, 20000, 20000, -20000, -20000, -20000);
            isSoundFromAnyCorner("the greatest triangle", 0, -20000, -20000, 20000, -20000, 20000, 20000);
        });
    }

    private static void rounds() {
        edges.test("POLYGONS: just one turn, the sign changes exactly twice", () -> {
            isSoundFromAnyCorner("once around", 0, OCTAGON);
            isSoundFromAnyCorner("twice around", 3, STAR);
            isSoundFromAnyCorner("three times around", 3, STAR_OF_EIGHT);
            isSoundFromAnyCorner("a square twice", 3, 0, 0, 10, 0, 10, 10, 0, 10, 0, 0, 10, 0, 10, 10, 0, 10);
            isSoundFromAnyCorner("a triangle twice", 3, 0, 0, 9, 1, 3, 8, 0, 0, 9, 1, 3, 8);
        });
        edges.test("POLYGONS: steps with equal y are left out of the signs", () -> {
            isSoundFromAnyCorner("one flat step, below", 0, 0, 0, 9, 0, 4, 5);
            isSoundFromAnyCorner("one flat step, above", 0, 4, 0, 9, 5, 0, 5);
            isSoundFromAnyCorner("two flat steps", 0, 0, 0, 10, 0, 10, 10, 0, 10);
            isSoundFromAnyCorner("a flat step in a star", 3, STAR_WITH_FLAT_STEP);
        });
        edges.test("POLYGONS: the signs are taken around in a circle", () -> {
            isSound("up, down", 0, 0, 0, 9, 0, 4, 5);
            isSound("up, down, and back up at the end", 0, 9, 3, 4, 5, 0, 0);
            isSound("down, up, and down at the end", 0, 0, 3, 4, 0, 9, 3, 4, 5);
            isSound("a star that begins flat", 3, 951, 309, -951, 309, 588, -809, 0, 1000, -588, -809);
            isSound("a star that ends flat", 3, -951, 309, 588, -809, 0, 1000, -588, -809, 951, 309);
        });
    }

    private static void pointsOnEdges() {
        edges.test("POLYGONS: contains the points on each edge and on each corner, and none beyond", () -> {
            looksLike(OCTAGON, "......", "..##..", ".####.", ".####.", "..##..", "......");
            looksLike(new int[] {0, 0, 4, 0, 0, 4}, "......", ".#....", ".##...", ".###..", ".####.", ".#####", "......");
            looksLike(new int[] {0, 0, 2, 1, 4, 3, 1, 2}, "......", ".....#", "..###.", "..##..", ".#....", "......");
        });
        edges.test("POLYGONS: a point just beyond each edge of the greatest box", () -> {
            ZoneRelay relay = with(4, -20000, -20000, 20000, -20000, 20000, 20000, -20000, 20000);
            int[] on = {20000, 0, -20000, 0, 0, 20000, 0, -20000, 20000, 20000, -20000, 20000, -20000, -20000, 20000, -20000};
            for (int i = 0; i < on.length; i += 2) {
                due.is("on its edge " + i / 2, 1, relay.contains(4, on[i], on[i + 1]));
                due.is("beyond it " + i / 2, 0, relay.contains(4, on[i] + Integer.signum(on[i]), on[i + 1] + Integer.signum(on[i + 1])));
            }
        });
        edges.test("POLYGONS: the farthest points are beyond each edge", () -> {
            ZoneRelay relay = with(4, -20000, -20000, 20000, -20000, 20000, 20000, -20000, 20000);
            Shapes.corners(relay, 3, -20000, -20000, 20000, 19999, 19999, 19999);
            for (int x = -100000; x <= 100000; x += 50000) {
                for (int y = -100000; y <= 100000; y += 50000) {
                    due.is("(" + x + ", " + y + ") in the box", x == 0 && y == 0 ? 1 : 0, relay.contains(4, x, y));
                    due.is("(" + x + ", " + y + ") in the thin one", x == 0 && y == 0 ? 1 : 0, relay.contains(3, x, y));
                }
            }
        });
    }

    private static void containsNothing(String what, int wantSound, int... xy) {
        ZoneRelay relay = with(0, xy);
        due.is(what + ": sound", wantSound, relay.sound(0));
        for (int x = -1; x <= 4; x++) {
            for (int y = -1; y <= 4; y++) {
                due.is(what + ": contains(0, " + x + ", " + y + ")", 0, relay.contains(0, x, y));
            }
        }
    }

    private static void unsoundPolygons() {
        edges.test("POLYGONS: a polygon that is not sound contains nothing", () -> {
            containsNothing("no corner", 1);
            containsNothing("one corner", 1, 0, 0);
            containsNothing("two corners", 1, 0, 0, 3, 0);
            containsNothing("three corners in a line", 2, 0, 0, 1, 0, 3, 0);
            containsNothing("to the right", 2, 0, 0, 0, 3, 3, 0);
            containsNothing("all corners in a point", 2, 1, 1, 1, 1, 1, 1);
            containsNothing("a corner in an edge", 2, 0, 0, 1, 0, 3, 0, 0, 3);
            containsNothing("a square twice", 3, 0, 0, 3, 0, 3, 3, 0, 3, 0, 0, 3, 0, 3, 3, 0, 3);
        });
        edges.test("POLYGONS: a sound polygon is not sound any more with one more corner", () -> {
            ZoneRelay relay = with(0, 0, 0, 3, 0, 3, 3, 0, 3);
            due.is("contains(0, 1, 1)", 1, relay.contains(0, 1, 1));
            relay.corner(0, 1, 1);
            due.is("then", 0, relay.contains(0, 1, 1));
        });
    }

    // ---- promises

    private static void newObject() {
        edges.test("1: at the time 0, without polygons", () -> {
            ZoneRelay relay = new ZoneRelay();
            due.is("the time", 0, relay.count(0));
            for (int polygon = 0; polygon < 5; polygon++) {
                due.is("sound(" + polygon + ")", 1, relay.sound(polygon));
                due.is("at(" + polygon + ", 0, 0)", ZoneRelay.NO_SUCH, relay.at(polygon, 0, 0));
                due.is("contains(" + polygon + ", 0, 0)", 0, relay.contains(polygon, 0, 0));
                due.is("spell(" + polygon + ", -1)", 0, relay.spell(polygon, -1));
                due.is("spell(" + polygon + ", 0)", ZoneRelay.NONE, relay.spell(polygon, 0));
                due.is("clear(" + polygon + ")", 0, relay.clear(polygon));
            }
        });
        edges.test("1: a new object has an empty pad, an empty log and empty slots", () -> {
            ZoneRelay relay = new ZoneRelay();
            due.is("the pad's length", 0, relay.count(2));
            due.is("the pad's fault", 0, relay.flaw());
            due.is("number of events", 0, relay.count(1));
            due.is("event(0, 1)", ZoneRelay.NONE, relay.event(0, 1));
            due.is("restore(0)", ZoneRelay.NOT_POSSIBLE, relay.restore(0));
            due.is("restore(1)", ZoneRelay.NOT_POSSIBLE, relay.restore(1));
            due.is("wipe()", 0, relay.wipe());
        });
        edges.test("1: a new object shares nothing with one that was used", () -> {
            String fresh = Busy.story(new ZoneRelay());
            ZoneRelay relay = new ZoneRelay();
            Busy.story(Busy.relay());
            due.same("its story", fresh, Busy.story(relay));
        });
    }

    private static void corner() {
        edges.range("2: polygon is 0 to 4, else NO_SUCH", ZoneRelay.NO_SUCH, 0, 4, relay -> relay.clear(4), (relay, n) -> relay.corner(n, 1, 2));
        edges.range("2: x is -20000 to 20000, else BAD_VALUE", ZoneRelay.BAD_VALUE, -20000, 20000, (relay, n) -> relay.corner(0, n, 2));
        edges.range("2: y is -20000 to 20000, else BAD_VALUE", ZoneRelay.BAD_VALUE, -20000, 20000, (relay, n) -> relay.corner(0, 1, n));
        edges.refused("2: NO_SUCH is checked before x", ZoneRelay.NO_SUCH, relay -> relay.corner(5, 20001, 0));
        edges.refused("2: NO_SUCH is checked before y", ZoneRelay.NO_SUCH, relay -> relay.corner(-1, 0, -20001));
    }

    private static void cornerFull() {
        edges.refused("2: TOO_MANY if it has 8 corners", ZoneRelay.TOO_MANY, relay -> relay.corner(1, 1, 2));
        edges.refused("2: BAD_VALUE for x is checked before TOO_MANY", ZoneRelay.BAD_VALUE, relay -> relay.corner(1, 20001, 2));
        edges.refused("2: BAD_VALUE for y is checked before TOO_MANY", ZoneRelay.BAD_VALUE, relay -> relay.corner(1, 1, -20001));
        edges.test("2: from the first corner to the eighth, in each polygon", () -> {
            ZoneRelay relay = new ZoneRelay();
            for (int polygon = 0; polygon < 5; polygon++) {
                for (int n = 1; n <= 8; n++) {
                    due.is("corner " + n + " of " + polygon, n, relay.corner(polygon, n, -n));
                }
                due.is("corner 9 of " + polygon, ZoneRelay.TOO_MANY, relay.corner(polygon, 9, -9));
                due.is("the eighth stays", 100008, relay.at(polygon, 7, 0));
                due.is("there is no ninth", ZoneRelay.NO_SUCH, relay.at(polygon, 8, 0));
            }
        });
        edges.test("2: a full polygon takes corners again when it is cleared", () -> {
            ZoneRelay relay = with(3, OCTAGON);
            relay.clear(3);
            due.is("corner", 1, relay.corner(3, -7, 7));
            due.is("its x", 99993, relay.at(3, 0, 0));
            due.is("one alone", ZoneRelay.NO_SUCH, relay.at(3, 1, 0));
        });
        edges.test("2: after 7 corners that were loaded comes one more, after 8 none", () -> {
            ZoneRelay relay = new ZoneRelay();
            Shapes.pad(relay, "1,1/2,2/3,3/4,4/5,5/6,6/7,7");
            relay.load(2);
            due.is("the eighth", 8, relay.corner(2, 8, 8));
            Shapes.pad(relay, "1,1/2,2/3,3/4,4/5,5/6,6/7,7/8,8");
            relay.load(2);
            due.is("a ninth", ZoneRelay.TOO_MANY, relay.corner(2, 9, 9));
        });
    }

    private static void clear() {
        edges.range("3: polygon is 0 to 4, else NO_SUCH", ZoneRelay.NO_SUCH, 0, 4, (relay, n) -> relay.clear(n));
        edges.test("3: an empty polygon had 0 corners", () -> {
            ZoneRelay relay = new ZoneRelay();
            due.is("clear(3)", 0, relay.clear(3));
            due.is("it is empty", 1, relay.sound(3));
        });
        edges.test("3: a full polygon had 8 corners", () -> {
            ZoneRelay relay = with(3, OCTAGON);
            Shapes.corners(relay, 2, 1, 1);
            due.is("clear(3)", 8, relay.clear(3));
            due.is("clear(3) again", 0, relay.clear(3));
            due.is("no corner stays", ZoneRelay.NO_SUCH, relay.at(3, 0, 0));
            due.is("it contains nothing", 0, relay.contains(3, 1, 1));
            due.is("it is not sound", 1, relay.sound(3));
            due.is("no text stays", 0, relay.spell(3, -1));
            due.is("another one stays", 1, relay.clear(2));
        });
    }

    private static void at() {
        edges.range("4: polygon is 0 to 4, else NO_SUCH", ZoneRelay.NO_SUCH, 0, 4, (relay, n) -> relay.at(n, 0, 0));
        edges.range("4: what is 0 or 1, else BAD_VALUE", ZoneRelay.BAD_VALUE, 0, 1, (relay, n) -> relay.at(0, 0, n));
        edges.refused("4: NO_SUCH for the polygon is checked before what", ZoneRelay.NO_SUCH, relay -> relay.at(5, 0, 2));
        edges.refused("4: NO_SUCH for the corner is checked before what", ZoneRelay.NO_SUCH, relay -> relay.at(0, 4, -1));
        edges.test("4: the coordinate plus 100000, from 80000 to 120000", () -> {
            ZoneRelay relay = with(0, -20000, 20000, 0, -1);
            due.is("x of -20000", 80000, relay.at(0, 0, 0));
            due.is("y of 20000", 120000, relay.at(0, 0, 1));
            due.is("x of 0", 100000, relay.at(0, 1, 0));
            due.is("y of -1", 99999, relay.at(0, 1, 1));
        });
    }

    private static void atIndex() {
        edges.range("4: index of 4 corners is 0 to 3, else NO_SUCH", ZoneRelay.NO_SUCH, 0, 3, (relay, n) -> relay.at(0, n, 1));
        edges.range("4: index of a full polygon is 0 to 7, else NO_SUCH", ZoneRelay.NO_SUCH, 0, 7, (relay, n) -> relay.at(1, n, 0));
        edges.refused("4: an empty polygon has no corner 0", ZoneRelay.NO_SUCH, relay -> relay.clear(0), relay -> relay.at(0, 0, 0));
        edges.test("4: each corner of a full polygon", () -> {
            ZoneRelay relay = with(4, OCTAGON);
            for (int i = 0; i < 16; i++) {
                due.is("coordinate " + i, 100000 + OCTAGON[i], relay.at(4, i / 2, i % 2));
            }
        });
    }

    private static void sound() {
        edges.range("5: polygon is 0 to 4, else NO_SUCH", ZoneRelay.NO_SUCH, 0, 4, (relay, n) -> relay.sound(n));
        edges.test("5: 1 with 0, 1 and 2 corners, whatever they are", () -> {
            isSound("no corner", 1);
            isSound("one corner", 1, 5, 5);
            isSound("two corners", 1, 5, 5, 6, 5);
            isSound("a corner twice", 1, 5, 5, 5, 5);
        });
        edges.test("5: 0 with 3 corners and with 8", () -> {
            isSound("three", 0, 0, 0, 1, 0, 0, 1);
            isSound("eight", 0, OCTAGON);
        });
        edges.test("5: 2 where it does not turn left, though it goes around more than once, too", () -> {
            isSoundFromAnyCorner("a star to the right", 2, 309, -951, -809, 588, 1000, 0, -809, -588, 309, 951);
            isSoundFromAnyCorner("a star with a corner in an edge", 2, 1000, 0, -809, 588, 309, -951, 309, 0, 309, 951, -809, -588);
        });
        edges.test("5: 3 where it turns left at each corner, but more than once around", () -> {
            isSound("a star of five", 3, STAR);
            isSound("a star of eight", 3, STAR_OF_EIGHT);
        });
        edges.test("5: sound again when its corners are", () -> {
            ZoneRelay relay = with(0, OCTAGON);
            Shapes.corners(relay, 0, 0, 0, 0, 1, 1, 0);
            due.is("to the right", 2, relay.sound(0));
            Shapes.corners(relay, 0, 0, 0, 1, 0, 0, 1);
            due.is("to the left", 0, relay.sound(0));
        });
    }

    private static void contains() {
        edges.range("6: polygon is 0 to 4, else NO_SUCH", ZoneRelay.NO_SUCH, 0, 4, (relay, n) -> relay.contains(n, 0, 0));
        edges.range("6: x is -100000 to 100000, else BAD_VALUE", ZoneRelay.BAD_VALUE, -100000, 100000, (relay, n) -> relay.contains(0, n, 0));
        edges.range("6: y is -100000 to 100000, else BAD_VALUE", ZoneRelay.BAD_VALUE, -100000, 100000, (relay, n) -> relay.contains(0, 0, n));
        edges.refused("6: NO_SUCH is checked before x", ZoneRelay.NO_SUCH, relay -> relay.contains(5, 100001, 0));
        edges.refused("6: NO_SUCH is checked before y", ZoneRelay.NO_SUCH, relay -> relay.contains(-1, 0, -100001));
        edges.refused("6: BAD_VALUE also of an empty polygon", ZoneRelay.BAD_VALUE, relay -> relay.clear(0), relay -> relay.contains(0, 100001, 0));
        edges.test("6: 1 on an edge, 0 beside it", () -> {
            ZoneRelay relay = with(2, -10, -10, 30, -10, 10, 10, -10, 10);
            due.is("on a slope", 1, relay.contains(2, 20, 0));
            due.is("right of it", 0, relay.contains(2, 21, 0));
            due.is("above it", 0, relay.contains(2, 20, 1));
            due.is("on a corner", 1, relay.contains(2, 30, -10));
            due.is("right of it", 0, relay.contains(2, 31, -10));
            due.is("below it", 0, relay.contains(2, 30, -11));
        });
    }
}
