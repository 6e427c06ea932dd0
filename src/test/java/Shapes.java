/** What many tests set up in a relay, and read from it. */
final class Shapes {
    private Shapes() {
    }

    static void box(ZoneRelay relay, int polygon, int left, int bottom, int right, int top) {
        corners(relay, polygon, left, bottom, right, bottom, right, top, left, top);
    }

    /** Gives a polygon these corners and no others. */
    static void corners(ZoneRelay relay, int polygon, int... xy) {
        relay.clear(polygon);
        for (int i = 0; i + 1 < xy.length; i += 2) {
            relay.corner(polygon, xy[i], xy[i + 1]);
        }
    }

    /** Makes the pad this text. */
    static void pad(ZoneRelay relay, String text) {
        relay.wipe();
        for (int i = 0; i < text.length(); i++) {
            relay.say(text.charAt(i));
        }
    }

    static String spelled(ZoneRelay relay, int polygon) {
        StringBuilder text = new StringBuilder();
        int length = relay.spell(polygon, -1);
        for (int i = 0; i < length; i++) {
            text.append((char) relay.spell(polygon, i));
        }
        return text.toString();
    }

    /** The kinds of all events that are kept, the oldest first. */
    static String kinds(ZoneRelay relay) {
        StringBuilder kinds = new StringBuilder();
        int total = relay.count(1);
        for (int event = Math.max(0, total - 60); event < total; event++) {
            kinds.append(kinds.length() == 0 ? "" : " ").append(relay.event(event, 1));
        }
        return kinds.toString();
    }

    /** All numbers that a relay tells, but those of the pad, as one text. */
    static String everything(ZoneRelay relay) {
        StringBuilder all = new StringBuilder();
        for (int what = 0; what <= 17; what++) {
            if (what != 2) {
                all.append(relay.count(what)).append(' ');
            }
        }
        for (int what = 0; what <= 12; what++) {
            all.append(relay.measure(what)).append(' ').append(relay.phasor(what)).append(' ');
        }
        for (int zone = 0; zone < 3; zone++) {
            for (int what = 0; what <= 4; what++) {
                all.append(relay.state(zone, what)).append(' ');
            }
        }
        for (int polygon = 0; polygon < 5; polygon++) {
            all.append(spelled(relay, polygon)).append(' ');
        }
        for (int event = 0; event < relay.count(1); event++) {
            all.append(relay.event(event, 0)).append(':').append(relay.event(event, 1)).append(' ');
        }
        return all.append(relay.tripped()).toString();
    }
}
