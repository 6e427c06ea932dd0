/** A relay with something of each kind in it, and all that a relay tells from then on. */
final class Busy {
    private Busy() {
    }

    /** Tripped, in a swing, in the load area, on a ramp, with events, a full polygon, a pad that can be read, and a slot. */
    static ZoneRelay relay() {
        ZoneRelay relay = new ZoneRelay();
        Shapes.box(relay, 0, -900, -900, 900, 900);
        Shapes.corners(relay, 1, 900, -300, 3000, -300, 3100, -200, 3100, 200, 3000, 300, 900, 300, 800, 200, 800, -200);
        Shapes.box(relay, 2, -2000, -2000, 2000, 2000);
        Shapes.box(relay, ZoneRelay.INNER, -1500, -1500, 1500, 1500);
        Shapes.box(relay, ZoneRelay.OUTER, -4000, -4000, 4000, 4000);
        relay.zone(1, 90, ZoneRelay.FORWARD);
        relay.zone(2, 30, ZoneRelay.BOTH);
        relay.set(ZoneRelay.SWING_TIME, 2);
        relay.set(ZoneRelay.SWING_ZONES, 1);
        relay.set(ZoneRelay.LOAD_FROM, 100);
        relay.network(2, 600, 2900);
        relay.apply(8192, 0, 4096, 0);
        relay.pass(30);
        relay.save(0);
        relay.ramp(60, 500, 300, 4096, -100);
        relay.pass(49);
        Shapes.pad(relay, "1,2/-3,4");
        return relay;
    }

    /** Whatever can be asked now, and after some more calls: two relays of one story are alike. An object has 512 calls. */
    static String story(ZoneRelay relay) {
        StringBuilder story = new StringBuilder();
        lookAtSample(relay, story);
        story.append("| restore(1) ").append(relay.restore(1)).append(" load(2) ").append(relay.load(2));
        story.append(" pass(13) ").append(relay.pass(13)).append(" |");
        look(relay, story);
        story.append("| reset() ").append(relay.reset()).append(" restore(0) ").append(relay.restore(0));
        story.append(" pass(5) ").append(relay.pass(5)).append(" |");
        look(relay, story);
        return story.toString();
    }

    /** Whatever can be asked now. */
    static String now(ZoneRelay relay) {
        StringBuilder now = new StringBuilder();
        look(relay, now);
        return now.toString();
    }

    private static void look(ZoneRelay relay, StringBuilder story) {
        lookAtSample(relay, story);
        for (int what = 3; what <= 17; what++) {
            story.append(' ').append(relay.count(what));
        }
        for (int polygon = 0; polygon < 5; polygon++) {
            lookAtPolygon(relay, polygon, story);
        }
        int events = relay.count(1);
        for (int event = Math.max(0, events - 60); event < events; event++) {
            story.append(' ').append(relay.event(event, 0)).append(':').append(relay.event(event, 1));
        }
    }

    /** What changes with a sample. */
    private static void lookAtSample(ZoneRelay relay, StringBuilder story) {
        for (int what = 0; what <= 2; what++) {
            story.append(' ').append(relay.count(what));
        }
        for (int what = 0; what <= 12; what++) {
            story.append(' ').append(relay.measure(what));
        }
        for (int what = 0; what <= 4; what++) {
            story.append(' ').append(relay.phasor(what));
        }
        for (int zone = 0; zone < 3; zone++) {
            for (int what = 0; what <= 4; what++) {
                story.append(' ').append(relay.state(zone, what));
            }
        }
        story.append(' ').append(relay.tripped()).append(' ').append(relay.flaw());
    }

    private static void lookAtPolygon(ZoneRelay relay, int polygon, StringBuilder story) {
        story.append(' ').append(relay.sound(polygon));
        for (int index = 0; index <= 8; index++) {
            int x = relay.at(polygon, index, 0);
            if (x < 0) {
                break;
            }
            story.append(' ').append(x).append(',').append(relay.at(polygon, index, 1));
        }
    }
}
