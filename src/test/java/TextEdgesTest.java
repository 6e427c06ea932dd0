import java.util.regex.Matcher;
import java.util.regex.Pattern;

/** Boundary cases of TEXTS, and of the promises 25 to 29. */
public final class TextEdgesTest {
    private static final Edges edges = new Edges();
    private static final Due due = edges.due;
    private static final int NONE = ZoneRelay.NONE;
    private static final String DIGITS = "0123456789";
    private static final String EIGHT = "0,1/1,2/2,3/3,4/4,5/5,6/6,7/7,8";
    private static final String EIGHTY_SIGNS = "-10000,-10000/".repeat(5) + "-1000,-200";
    private static final String NUMBER = "-?(?:0|[1-9][0-9]{0,3}|1[0-9]{4}|20000)";
    private static final String CORNER = NUMBER + "," + NUMBER;
    private static final Pattern POLYGON = Pattern.compile(CORNER + "(?:/" + CORNER + "){0,7}");

    public static void main(String[] args) {
        numbers();
        signsAndMissingNumbers();
        cornersOfATexts();
        eachNextCharacter();
        lengthOfAText();
        shortTexts();
        say();
        sayFull();
        wipe();
        flaw();
        load();
        loadErrors();
        spell();
        spellErrors();
        edges.finish("TEXTS", "25", "26", "27", "28", "29");
    }

    private static void flaw(int want, String text) {
        ZoneRelay relay = new ZoneRelay();
        Shapes.pad(relay, text);
        due.is("flaw of " + text, want, relay.flaw());
        due.is("the pad " + text + " stays", text.length(), relay.count(2));
        due.is("load of " + text, want == NONE ? text.split("/").length : ZoneRelay.BAD_TEXT, relay.load(3));
    }

    /** A number in each place where one can stand: its fault is so many characters into it, or there is none. */
    private static void number(int want, String number) {
        String[] before = {"", "-7,", "1,2/", "1,2/3,"};
        String[] after = {",5", "", ",5/6,7", "/6,7"};
        for (int place = 0; place < 4; place++) {
            flaw(want == NONE ? NONE : before[place].length() + want, before[place] + number + after[place]);
        }
    }

    // ---- TEXTS

    private static void numbers() {
        edges.test("TEXTS: a number is 0 to 20000", () -> {
            for (String correct : new String[] {"0", "1", "9", "10", "99", "100", "999", "1000", "2000", "9999", "10000", "19999", "20000"}) {
                number(NONE, correct);
            }
            for (String tooLarge : new String[] {"20001", "20009", "20010", "21000", "30000", "99999"}) {
                number(4, tooLarge);
            }
            for (String tooLong : new String[] {"100000", "199999", "200000", "2000000000000"}) {
                number(5, tooLong);
            }
        });
        edges.test("TEXTS: a number with a minus is -20000 to -0", () -> {
            for (String correct : new String[] {"-0", "-1", "-9", "-10", "-9999", "-10000", "-19999", "-20000"}) {
                number(NONE, correct);
            }
            for (String tooLarge : new String[] {"-20001", "-20010", "-30000", "-99999"}) {
                number(5, tooLarge);
            }
            number(6, "-100000");
            number(6, "-200000");
        });
        edges.test("TEXTS: a number is without leading zeros", () -> {
            number(1, "00");
            number(1, "01");
            number(1, "020000");
            number(2, "-00");
            number(2, "-01");
            number(NONE, "0");
            number(NONE, "-0");
            number(NONE, "100");
        });
    }

    private static void signsAndMissingNumbers() {
        edges.test("TEXTS: at most one minus, before the number alone", () -> {
            number(1, "--1");
            number(1, "1-");
            number(1, "1-1");
            number(2, "-1-");
            number(1, "0-");
            number(1, "-");
        });
        edges.test("TEXTS: no other sign before a number, and none in it", () -> {
            number(0, "+1");
            number(1, "1+");
            number(1, "1.5");
            number(1, "1e4");
            number(0, "x");
        });
        edges.test("TEXTS: no number is missing", () -> {
            number(0, "");
            flaw(0, "");
            flaw(0, ",");
            flaw(0, "/");
            flaw(2, "1,");
            flaw(2, "1,/2,3");
            flaw(2, "1,,2");
        });
    }

    private static void cornersOfATexts() {
        edges.test("TEXTS: a corner is two numbers", () -> {
            flaw(1, "1");
            flaw(NONE, "1,2");
            flaw(3, "1,2,");
            flaw(3, "1,2,3");
            flaw(1, "1/2,3");
            flaw(5, "1,2/3");
            flaw(5, "1,2/3/4,5");
        });
        edges.test("TEXTS: a slash stands between two corners alone", () -> {
            flaw(0, "/1,2");
            flaw(4, "1,2/");
            flaw(4, "1,2//3,4");
            flaw(8, "1,2/3,4/");
            flaw(NONE, "1,2/3,4");
        });
        edges.test("TEXTS: there are at most 8 corners, and at least one", () -> {
            flaw(0, "");
            flaw(NONE, "0,1");
            flaw(NONE, "0,1/1,2/2,3/3,4/4,5/5,6/6,7");
            flaw(28, "0,1/1,2/2,3/3,4/4,5/5,6/6,7/");
            flaw(30, "0,1/1,2/2,3/3,4/4,5/5,6/6,7/7,");
            flaw(NONE, EIGHT);
            flaw(NONE, EIGHT + "9");
            flaw(31, EIGHT + "/");
            flaw(31, EIGHT + "/8,9");
            flaw(31, EIGHT + "/8,9/9,10");
        });
    }

    /** After a beginning that can be completed, just these characters lead on. */
    private static void next(String beginning, String leadOn) {
        for (int character = 33; character <= 126; character++) {
            ZoneRelay relay = new ZoneRelay();
            Shapes.pad(relay, beginning);
            relay.say(character);
            boolean isFault = relay.flaw() == beginning.length();
            due.holds(beginning + (char) character + " is " + (isFault ? "" : "not ") + "at fault there", isFault == (leadOn.indexOf(character) < 0));
        }
    }

    private static void eachNextCharacter() {
        edges.test("TEXTS: the fault is the first character with which no correct text can begin, whichever it is", () -> {
            next("", DIGITS + "-");
            next("-", DIGITS);
            next("0", ",");
            next("-0", ",");
            next("5", DIGITS + ",");
            next("-5", DIGITS + ",");
            next("2000", "0,");
            next("1999", DIGITS + ",");
            next("2001", ",");
            next("20000", ",");
            next("5,", DIGITS + "-");
            next("5,-", DIGITS);
            next("5,0", "/");
            next("5,-0", "/");
            next("5,6", DIGITS + "/");
            next("5,-2000", "0/");
            next("5,20000", "/");
            next("5,6/", DIGITS + "-");
            next("5,6/7", DIGITS + ",");
            next(EIGHT, DIGITS);
            next(EIGHT.substring(0, 30), DIGITS + "-");
            next(EIGHT.substring(0, 27), DIGITS + "/");
        });
        edges.test("TEXTS: the first fault counts, not a later one", () -> {
            flaw(0, "xx");
            flaw(1, "1x,");
            flaw(2, "1,x/");
            flaw(4, "20001,20001");
        });
    }

    private static void lengthOfAText() {
        edges.test("TEXTS: the fault is the text's length if there is no such character", () -> {
            flaw(0, "");
            flaw(1, "-");
            flaw(1, "2");
            flaw(5, "20000");
            flaw(2, "2,");
            flaw(3, "2,-");
            flaw(4, "2,3/");
        });
        edges.test("TEXTS: the greatest length of the text does not matter for its fault", () -> {
            due.is("signs", 80, EIGHTY_SIGNS.length());
            flaw(NONE, EIGHTY_SIGNS);
            // More than 80 characters would have to follow here, and yet a correct text can begin so.
            flaw(80, EIGHTY_SIGNS.substring(0, 70) + "1000,1000/");
            flaw(80, EIGHTY_SIGNS.substring(0, 70) + "10000,100/");
            flaw(79, EIGHTY_SIGNS.substring(0, 70) + "1000,20001");
            flaw(79, EIGHTY_SIGNS.substring(0, 79) + "x");
        });
        edges.test("TEXTS: the pad has at most 80 characters", () -> {
            ZoneRelay relay = new ZoneRelay();
            Shapes.pad(relay, EIGHTY_SIGNS);
            due.is("its length", 80, relay.count(2));
            due.is("one more", ZoneRelay.TOO_MANY, relay.say('5'));
            due.is("its length then", 80, relay.count(2));
            due.is("its corners", 6, relay.load(0));
            due.is("its last number", 100000 - 200, relay.at(0, 5, 1));
        });
    }

    private static int flawByPattern(String text) {
        for (int length = 1; length <= text.length(); length++) {
            Matcher matcher = POLYGON.matcher(text.substring(0, length));
            if (!matcher.matches() && !matcher.hitEnd()) {
                return length - 1;
            }
        }
        return POLYGON.matcher(text).matches() ? NONE : text.length();
    }

    private static void shortTexts() {
        edges.test("TEXTS: all texts of up to five of these signs: 0 1 2 - , / x", () -> {
            String signs = "012-,/x";
            for (int length = 0; length <= 5; length++) {
                long texts = Math.round(Math.pow(signs.length(), length));
                for (long text = 0; text < texts; text++) {
                    shortText(signs, length, text);
                }
            }
        });
    }

    private static void shortText(String signs, int length, long number) {
        StringBuilder text = new StringBuilder();
        for (int i = 0; i < length; i++) {
            text.append(signs.charAt((int) (number % signs.length())));
            number /= signs.length();
        }
        ZoneRelay relay = new ZoneRelay();
        Shapes.pad(relay, text.toString());
        due.is("flaw of " + text, flawByPattern(text.toString()), relay.flaw());
    }

    // ---- promises

    private static void say() {
        edges.range("25: character is 33 to 126, else BAD_VALUE", ZoneRelay.BAD_VALUE, 33, 126, (relay, n) -> relay.say(n));
        edges.refused("25: a code that would be a digit if it were cut off", ZoneRelay.BAD_VALUE, relay -> relay.say(65536 + '5'));
        edges.refused("25: a code that would be a digit if it were cut off more", ZoneRelay.BAD_VALUE, relay -> relay.say(256 + '5'));
        edges.test("25: from an empty pad on, each character adds 1 to the length", () -> {
            ZoneRelay relay = new ZoneRelay();
            for (int n = 1; n <= 80; n++) {
                due.is("character " + n, n, relay.say(n % 2 == 0 ? 33 : 126));
                due.is("the length", n, relay.count(2));
            }
        });
    }

    private static void sayFull() {
        Edges.Setup full = relay -> Shapes.pad(relay, EIGHTY_SIGNS);
        edges.refused("25: TOO_MANY if the pad has 80 characters", ZoneRelay.TOO_MANY, full, relay -> relay.say('5'));
        edges.refused("25: BAD_VALUE is checked before TOO_MANY, for a code too small", ZoneRelay.BAD_VALUE, full, relay -> relay.say(32));
        edges.refused("25: BAD_VALUE is checked before TOO_MANY, for a code too large", ZoneRelay.BAD_VALUE, full, relay -> relay.say(127));
        edges.test("25: with 79 characters there is room for one more", () -> {
            ZoneRelay relay = new ZoneRelay();
            Shapes.pad(relay, EIGHTY_SIGNS.substring(0, 79));
            due.is("the last one", 80, relay.say('5'));
            due.is("none then", ZoneRelay.TOO_MANY, relay.say('5'));
        });
        edges.test("25: a full pad takes characters again when it is emptied, by wipe and by load", () -> {
            ZoneRelay relay = new ZoneRelay();
            Shapes.pad(relay, EIGHTY_SIGNS);
            relay.wipe();
            due.is("after wipe", 1, relay.say('5'));
            Shapes.pad(relay, EIGHTY_SIGNS);
            relay.load(0);
            due.is("after load", 1, relay.say('5'));
        });
    }

    private static void wipe() {
        edges.test("26: an empty pad had the length 0", () -> {
            ZoneRelay relay = new ZoneRelay();
            due.is("wipe()", 0, relay.wipe());
            due.is("its length", 0, relay.count(2));
        });
        edges.test("26: a full pad had the length 80, and one of a character 1", () -> {
            ZoneRelay relay = new ZoneRelay();
            Shapes.pad(relay, EIGHTY_SIGNS);
            due.is("wipe()", 80, relay.wipe());
            due.is("its length", 0, relay.count(2));
            due.is("its fault", 0, relay.flaw());
            due.is("wipe() again", 0, relay.wipe());
            relay.say('5');
            due.is("wipe() of one", 1, relay.wipe());
        });
        edges.test("26: nothing is left of what stood in the pad", () -> {
            ZoneRelay relay = new ZoneRelay();
            Shapes.pad(relay, "20000,-20000/x");
            relay.wipe();
            relay.say('7');
            due.is("its fault", 1, relay.flaw());
            relay.say(',');
            relay.say('8');
            due.is("its corners", 1, relay.load(1));
            due.is("x", 100007, relay.at(1, 0, 0));
            due.is("y", 100008, relay.at(1, 0, 1));
        });
    }

    private static void flaw() {
        edges.test("27: of an empty pad the fault is 0", () -> due.is("flaw()", 0, new ZoneRelay().flaw()));
        edges.test("27: NONE for the shortest and the longest correct text", () -> {
            flaw(NONE, "0,0");
            flaw(NONE, EIGHTY_SIGNS);
        });
        edges.test("27: of a full pad the fault is from 0 to 80", () -> {
            flaw(0, "x" + EIGHTY_SIGNS.substring(1));
            flaw(79, EIGHTY_SIGNS.substring(0, 79) + "x");
            flaw(80, EIGHTY_SIGNS.substring(0, 70) + "1000,1000/");
        });
        edges.refused("27: the fault is told, and nothing changes", 4, relay -> Shapes.pad(relay, "5,6/"), relay -> relay.flaw());
        edges.refused("27: NONE is told, and nothing changes", NONE, relay -> relay.flaw());
    }

    private static void load() {
        edges.range("28: polygon is 0 to 4, else NO_SUCH", ZoneRelay.NO_SUCH, 0, 4, (relay, n) -> relay.load(n));
        edges.test("28: the shortest text makes one corner of a full polygon", () -> {
            ZoneRelay relay = Busy.relay();
            Shapes.pad(relay, "0,-0");
            due.is("load(1)", 1, relay.load(1));
            due.is("the pad's length", 0, relay.count(2));
            due.is("x", 100000, relay.at(1, 0, 0));
            due.is("y", 100000, relay.at(1, 0, 1));
            due.is("no second corner", ZoneRelay.NO_SUCH, relay.at(1, 1, 0));
            due.is("sound", 1, relay.sound(1));
        });
        edges.test("28: eight corners fill an empty polygon, from the first to the last", () -> {
            ZoneRelay relay = new ZoneRelay();
            Shapes.pad(relay, EIGHT);
            due.is("load(4)", 8, relay.load(4));
            for (int i = 0; i < 8; i++) {
                due.is("x of " + i, 100000 + i, relay.at(4, i, 0));
                due.is("y of " + i, 100001 + i, relay.at(4, i, 1));
            }
            due.is("it is full", ZoneRelay.TOO_MANY, relay.corner(4, 0, 0));
        });
        edges.test("28: the least and the greatest numbers, and -0", () -> {
            ZoneRelay relay = new ZoneRelay();
            Shapes.pad(relay, "-20000,20000/20000,-20000/-0,0");
            due.is("load(0)", 3, relay.load(0));
            int[] want = {80000, 120000, 120000, 80000, 100000, 100000};
            for (int i = 0; i < 6; i++) {
                due.is("coordinate " + i, want[i], relay.at(0, i / 2, i % 2));
            }
        });
        edges.test("28: a polygon that was loaded is sound, and contains its edges", () -> {
            ZoneRelay relay = new ZoneRelay();
            Shapes.pad(relay, "0,0/10,0/0,10");
            relay.load(2);
            due.is("sound", 0, relay.sound(2));
            due.is("on an edge", 1, relay.contains(2, 5, 5));
            due.is("beside it", 0, relay.contains(2, 6, 5));
        });
    }

    private static void loadErrors() {
        edges.refused("28: BAD_TEXT of an empty pad", ZoneRelay.BAD_TEXT, relay -> relay.wipe(), relay -> relay.load(0));
        edges.refused("28: BAD_TEXT of a text that is not finished", ZoneRelay.BAD_TEXT,
            relay -> Shapes.pad(relay, "1,2/3,"), relay -> relay.load(0));
        edges.refused("28: BAD_TEXT of a text with a fault in it", ZoneRelay.BAD_TEXT,
            relay -> Shapes.pad(relay, "1,2/3,04"), relay -> relay.load(0));
        edges.refused("28: BAD_TEXT of nine corners", ZoneRelay.BAD_TEXT,
            relay -> Shapes.pad(relay, EIGHT + "/8,9"), relay -> relay.load(0));
        edges.refused("28: NO_SUCH is checked before BAD_TEXT, for a polygon too large", ZoneRelay.NO_SUCH,
            relay -> Shapes.pad(relay, "x"), relay -> relay.load(5));
        edges.refused("28: NO_SUCH is checked before BAD_TEXT, for a polygon too small", ZoneRelay.NO_SUCH,
            relay -> relay.wipe(), relay -> relay.load(-1));
        edges.test("28: a text that was refused can be finished", () -> {
            ZoneRelay relay = new ZoneRelay();
            Shapes.pad(relay, "1,2/3,");
            due.is("not yet", ZoneRelay.BAD_TEXT, relay.load(0));
            relay.say('4');
            due.is("of no polygon", ZoneRelay.NO_SUCH, relay.load(5));
            due.is("then", 2, relay.load(0));
            due.is("its last number", 100004, relay.at(0, 1, 1));
        });
        edges.test("28: the pad is empty after it, so that a second time is BAD_TEXT", () -> {
            ZoneRelay relay = new ZoneRelay();
            Shapes.pad(relay, "1,2");
            due.is("load(0)", 1, relay.load(0));
            due.is("load(1)", ZoneRelay.BAD_TEXT, relay.load(1));
            due.is("wipe()", 0, relay.wipe());
        });
    }

    private static void isSpelled(String want, int... xy) {
        ZoneRelay relay = new ZoneRelay();
        Shapes.corners(relay, 3, xy);
        due.is("length of " + want, want.length(), relay.spell(3, -1));
        due.same("spelled", want, Shapes.spelled(relay, 3));
        due.is("before its first character", NONE, relay.spell(3, -2));
        due.is("after its last character", NONE, relay.spell(3, want.length()));
    }

    private static void spell() {
        edges.range("29: polygon is 0 to 4, else NO_SUCH", ZoneRelay.NO_SUCH, 0, 4, (relay, n) -> relay.spell(n, -1));
        edges.test("29: the length is 0 if there are no corners, and there is no character", () -> {
            isSpelled("");
            ZoneRelay relay = Busy.relay();
            relay.clear(1);
            due.is("of a cleared polygon", 0, relay.spell(1, -1));
            due.is("its first character", NONE, relay.spell(1, 0));
        });
        edges.test("29: the shortest text and the longest", () -> {
            isSpelled("0,0", 0, 0);
            String corner = "-20000,-20000";
            isSpelled(corner + ("/" + corner).repeat(7), -20000, -20000, -20000, -20000, -20000, -20000, -20000, -20000,
                -20000, -20000, -20000, -20000, -20000, -20000, -20000, -20000);
        });
        edges.test("29: numbers where they become longer", () -> {
            isSpelled("-1,0/9,10/-9,-10/99,100", -1, 0, 9, 10, -9, -10, 99, 100);
            isSpelled("999,1000/9999,10000/-9999,-10000/20000,-20000", 999, 1000, 9999, 10000, -9999, -10000, 20000, -20000);
        });
        edges.test("29: what was loaded as -0 is spelled 0", () -> {
            ZoneRelay relay = new ZoneRelay();
            Shapes.pad(relay, "-0,-0");
            relay.load(0);
            due.same("spelled", "0,0", Shapes.spelled(relay, 0));
        });
    }

    private static void spellErrors() {
        edges.refused("29: NO_SUCH comes before NONE", ZoneRelay.NO_SUCH, relay -> relay.spell(5, 1000));
        edges.refused("29: NO_SUCH comes before NONE, below 0", ZoneRelay.NO_SUCH, relay -> relay.spell(-1, -2));
        edges.refused("29: NONE for the index -2", NONE, relay -> relay.spell(0, -2));
        edges.refused("29: NONE for the least int", NONE, relay -> relay.spell(0, Integer.MIN_VALUE));
        edges.refused("29: NONE for the greatest int", NONE, relay -> relay.spell(0, Integer.MAX_VALUE));
        edges.test("29: the first and the last character, and NONE after it", () -> {
            ZoneRelay relay = new ZoneRelay();
            relay.corner(2, -1, 7);
            due.is("length", 4, relay.spell(2, -1));
            due.is("the first", '-', relay.spell(2, 0));
            due.is("the last", '7', relay.spell(2, 3));
            due.is("none", NONE, relay.spell(2, 4));
        });
    }
}
