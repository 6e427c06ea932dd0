/** Promises 25 to 29: say, wipe, flaw, load and spell. */
public final class TextTest {
    private static final Due due = new Due();
    private static final int NONE = ZoneRelay.NONE;

    public static void main(String[] args) {
        promise25Say();
        promise26Wipe();
        promise27Numbers();
        promise27Corners();
        promise27EveryCharacter();
        promise28Load();
        promise28Errors();
        promise29Spell();
        promise29Errors();
        due.finish();
    }

    private static void promise25Say() {
        ZoneRelay relay = new ZoneRelay();
        due.is("say(32)", ZoneRelay.BAD_VALUE, relay.say(32));
        due.is("say(127)", ZoneRelay.BAD_VALUE, relay.say(127));
        due.is("say(-1)", ZoneRelay.BAD_VALUE, relay.say(-1));
        due.is("say(65536 + 48)", ZoneRelay.BAD_VALUE, relay.say(65536 + 48));
        for (int n = 1; n <= 80; n++) {
            due.is("character " + n, n, relay.say(n % 2 == 0 ? 33 : 126));
        }
        due.is("character 81", ZoneRelay.TOO_MANY, relay.say(48));
        due.is("a wrong one comes first", ZoneRelay.BAD_VALUE, relay.say(32));
        due.is("the length", 80, relay.count(2));
    }

    private static void promise26Wipe() {
        ZoneRelay relay = new ZoneRelay();
        due.is("an empty pad", 0, relay.wipe());
        Shapes.pad(relay, "1,2/x");
        due.is("wipe()", 5, relay.wipe());
        due.is("wipe() again", 0, relay.wipe());
        due.is("the length", 0, relay.count(2));
        due.is("it begins anew", 1, relay.say('7'));
        due.is("with nothing before", 1, relay.flaw());
    }

    private static void flaw(int want, String text) {
        ZoneRelay relay = new ZoneRelay();
        Shapes.pad(relay, text);
        due.is("flaw of " + text, want, relay.flaw());
        due.is("flaw of " + text + " again", want, relay.flaw());
        due.is("the pad stays", text.length(), relay.count(2));
    }

    private static void promise27Numbers() {
        flaw(0, "");
        flaw(1, "-");
        flaw(1, "1");
        flaw(2, "-1");
        flaw(1, "--1");
        flaw(1, "-,1");
        flaw(0, ",1");
        flaw(NONE, "-0,-0");
        flaw(2, "-01,1");
        flaw(1, "00,1");
        flaw(1, "01,1");
        flaw(1, "1-,1");
        flaw(3, "0,00");
        flaw(4, "0,-00");
        flaw(NONE, "20000,-20000");
        flaw(4, "20001,1");
        flaw(4, "2001");
        flaw(7, "2,20000000");
        flaw(NONE, "0,2000");
        flaw(0, "+1,1");
        flaw(0, "/1,1");
        flaw(1, "1 ,1".replace(' ', '!'));
        flaw(1, "1.5,1");
    }

    private static void promise27Corners() {
        flaw(NONE, "1,2");
        flaw(2, "1,");
        flaw(3, "1,-");
        flaw(2, "1,,2");
        flaw(3, "1,2,3");
        flaw(4, "1,2/");
        flaw(4, "1,2//");
        flaw(5, "1,2/3");
        flaw(5, "1,2/3/4,5");
        flaw(6, "1,2/3,");
        flaw(NONE, "1,2/3,4");
        flaw(1, "1/2,3");
        flaw(7, "1,2/3,4x");
        String eight = "0,1/1,2/2,3/3,4/4,5/5,6/6,7/7,8";
        flaw(NONE, eight);
        flaw(31, eight + "/");
        flaw(31, eight + "/8,9");
        flaw(30, "0,1/1,2/2,3/3,4/4,5/5,6/6,7/7,");
        flaw(27, "0,1/1,2/2,3/3,4/4,5/5,6/6,7x7,8");
        // Eighty characters do not hold eight corners of thirteen, which does not matter.
        String five = "-10000,-10000/".repeat(5);
        flaw(80, five + "1000,1000/");
        flaw(NONE, five + "-1000,-200");
        flaw(79, five + "1000,20001");
    }

    private static void promise27EveryCharacter() {
        for (int character = 33; character <= 126; character++) {
            boolean isDigit = character >= '0' && character <= '9';
            String sign = String.valueOf((char) character);
            flaw(isDigit || character == '-' ? 1 : 0, sign);
            flaw(isDigit || character == ',' ? 2 : 1, "5" + sign);
            flaw(isDigit ? NONE : character == '-' ? 3 : 2, "5," + sign);
            flaw(isDigit ? NONE : character == '/' ? 4 : 3, "5,6" + sign);
            flaw(isDigit || character == '-' ? 5 : 4, "5,6/" + sign);
        }
    }

    private static void promise28Load() {
        ZoneRelay relay = new ZoneRelay();
        Shapes.box(relay, 4, 0, 0, 10, 10);
        Shapes.pad(relay, "-20000,-0/20000,-7/0,123");
        due.is("load(4)", 3, relay.load(4));
        due.is("the pad is empty", 0, relay.count(2));
        int[] want = {80000, 100000, 120000, 99993, 100000, 100123};
        for (int i = 0; i < 6; i++) {
            due.is("coordinate " + i, want[i], relay.at(4, i / 2, i % 2));
        }
        due.is("the corners before are gone", ZoneRelay.NO_SUCH, relay.at(4, 3, 0));
        due.is("it is sound", 0, relay.sound(4));
        due.is("it contains a point", 1, relay.contains(4, 0, 100));
        Shapes.pad(relay, "0,1/1,2/2,3/3,4/4,5/5,6/6,7/7,8");
        due.is("load(0)", 8, relay.load(0));
        due.is("not sound, but loaded", 2, relay.sound(0));
        due.is("full", ZoneRelay.TOO_MANY, relay.corner(0, 0, 0));
        Shapes.pad(relay, "5,5");
        due.is("a corner", 1, relay.load(0));
        due.is("one more", 2, relay.corner(0, 6, 6));
        Shapes.pad(relay, "7,7");
        relay.load(1);
        due.is("polygons do not share corners", 100005, relay.at(0, 0, 0));
        relay.clear(1);
        due.is("nor their number", 2, relay.clear(0));
    }

    private static void promise28Errors() {
        ZoneRelay relay = new ZoneRelay();
        Shapes.box(relay, 2, 0, 0, 10, 10);
        due.is("an empty pad", ZoneRelay.BAD_TEXT, relay.load(2));
        Shapes.pad(relay, "1,2/3,");
        due.is("an unfinished text", ZoneRelay.BAD_TEXT, relay.load(2));
        due.is("load(5)", ZoneRelay.NO_SUCH, relay.load(5));
        due.is("load(-1)", ZoneRelay.NO_SUCH, relay.load(-1));
        due.is("the pad stays", 6, relay.count(2));
        due.is("the polygon stays", 4, relay.clear(2));
        relay.say('4');
        due.is("load(5) of a correct text", ZoneRelay.NO_SUCH, relay.load(5));
        due.is("the pad stays", 7, relay.count(2));
        due.is("load(2)", 2, relay.load(2));
    }

    private static void spells(String want, int... xy) {
        ZoneRelay relay = new ZoneRelay();
        Shapes.corners(relay, 3, xy);
        due.is("length of " + want, want.length(), relay.spell(3, -1));
        due.holds(want + " is spelled " + Shapes.spelled(relay, 3), Shapes.spelled(relay, 3).equals(want));
        due.is("after " + want, NONE, relay.spell(3, want.length()));
    }

    private static void promise29Spell() {
        spells("");
        spells("0,0", 0, 0);
        spells("-1,20000", -1, 20000);
        spells("10,-100/1000,-10000", 10, -100, 1000, -10000);
        spells("1,2/3,4/5,6/7,8/9,10/11,12/13,14/-15,-16", 1, 2, 3, 4, 5, 6, 7, 8, 9, 10, 11, 12, 13, 14, -15, -16);
        String corner = "-20000,-20000";
        spells(corner + ("/" + corner).repeat(7), -20000, -20000, -20000, -20000, -20000, -20000, -20000, -20000,
            -20000, -20000, -20000, -20000, -20000, -20000, -20000, -20000);
        ZoneRelay relay = new ZoneRelay();
        Shapes.pad(relay, "-0,-0/10,-0");
        relay.load(0);
        due.holds("-0 is 0", Shapes.spelled(relay, 0).equals("0,0/10,0"));
    }

    private static void promise29Errors() {
        ZoneRelay relay = new ZoneRelay();
        relay.corner(0, 1, 2);
        due.is("spell(-1, 0)", ZoneRelay.NO_SUCH, relay.spell(-1, 0));
        due.is("spell(5, -1)", ZoneRelay.NO_SUCH, relay.spell(5, -1));
        due.is("spell(5, 99)", ZoneRelay.NO_SUCH, relay.spell(5, 99));
        due.is("spell(0, 3)", NONE, relay.spell(0, 3));
        due.is("spell(0, -2)", NONE, relay.spell(0, -2));
        due.is("spell(0, least int)", NONE, relay.spell(0, Integer.MIN_VALUE));
        due.is("spell(0, greatest int)", NONE, relay.spell(0, Integer.MAX_VALUE));
        due.is("spell(1, 0)", NONE, relay.spell(1, 0));
        due.is("spell(0, 1)", ',', relay.spell(0, 1));
        relay.corner(4, 7, 8);
        due.is("spell(4, 2)", '8', relay.spell(4, 2));
    }
}
