import java.util.TreeSet;

/**
 * Tests of boundary cases. The name of each begins with the number of its promise, or with the section of the document
 * that tells the boundary; no two have the same name.
 */
final class Edges {
    interface Test {
        void run();
    }

    interface Setup {
        void make(ZoneRelay relay);
    }

    interface Call {
        long on(ZoneRelay relay);
    }

    interface CallWith {
        long on(ZoneRelay relay, int value);
    }

    private static final String NAME = "(?:[1-9]|[12][0-9]|3[0-2]|CONVENTIONS|SIGNALS|THE NETWORK|ESTIMATES|POLYGONS"
        + "|SETTINGS|A SAMPLE|EVENTS|TEXTS): .+";
    private static final Setup NOTHING_MORE = relay -> { };

    final Due due = new Due();
    private final TreeSet<String> names = new TreeSet<>();

    private void begin(String name) {
        due.begin(name);
        due.holds("begins with a promise or a section", name.matches(NAME));
        due.holds("is the only one of its name", names.add(name));
    }

    void test(String name, Test test) {
        begin(name);
        test.run();
    }

    /** A busy relay refuses a call with this code, and nothing changes in it. */
    void refused(String name, long code, Call call) {
        refused(name, code, NOTHING_MORE, call);
    }

    void refused(String name, long code, Setup setup, Call call) {
        begin(name);
        isRefused("the call", code, setup, call);
    }

    /** A busy relay takes the first and the last value, and refuses one below, one above, the least and the greatest int. */
    void range(String name, long code, int first, int last, CallWith call) {
        range(name, code, first, last, NOTHING_MORE, call);
    }

    void range(String name, long code, int first, int last, Setup setup, CallWith call) {
        begin(name);
        isTaken(first, setup, call);
        isTaken(last, setup, call);
        for (int wrong : new int[] {first - 1, last + 1, Integer.MIN_VALUE, Integer.MAX_VALUE}) {
            isRefused(String.valueOf(wrong), code, setup, relay -> call.on(relay, wrong));
        }
    }

    private void isTaken(int value, Setup setup, CallWith call) {
        ZoneRelay relay = Busy.relay();
        setup.make(relay);
        long answer = call.on(relay, value);
        due.holds(value + " is taken, answered " + answer, !isError(answer) && !isError(answer - ZoneRelay.GONE));
    }

    private static boolean isError(long answer) {
        return answer <= ZoneRelay.NO_SUCH && answer >= ZoneRelay.NOT_POSSIBLE;
    }

    private void isRefused(String what, long code, Setup setup, Call call) {
        ZoneRelay asked = Busy.relay();
        ZoneRelay left = Busy.relay();
        setup.make(asked);
        setup.make(left);
        due.is(what, code, call.on(asked));
        due.same(what + " changes nothing", Busy.story(left), Busy.story(asked));
    }

    /** Ends the tests; each of these promises and sections must have had one. */
    void finish(String... promisesAndSections) {
        for (String wanted : promisesAndSections) {
            due.begin(wanted);
            due.holds("has a test", names.stream().anyMatch(name -> name.startsWith(wanted + ": ")));
        }
        System.out.println("  " + names.size() + " boundary tests");
        due.finish();
    }
}
