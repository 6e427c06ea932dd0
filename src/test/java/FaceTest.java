import java.lang.reflect.Constructor;
import java.lang.reflect.Field;
import java.lang.reflect.Method;
import java.lang.reflect.Modifier;
import java.util.ArrayList;
import java.util.Arrays;
import java.util.List;
import java.util.TreeSet;

/** The class has the document's face, and nothing else that others can see. */
public final class FaceTest {
    private static final Due due = new Due();

    private static final String[] METHODS = {
        "int corner(int,int,int)", "int clear(int)", "int at(int,int,int)", "int sound(int)",
        "int contains(int,int,int)", "int set(int,int)", "int zone(int,int,int)", "int apply(int,int,int,int)",
        "int ramp(int,int,int,int,int)", "int network(int,int,int)", "int fault(int,int)", "int healthy()",
        "long phasor(int)", "int pass(int)", "long measure(int)", "int state(int,int)", "int tripped()",
        "int reset()", "int event(int,int)", "int covers(int,int)", "int reach(int,int)",
        "int test(int,int,int,int)", "int forecast(int)", "int say(int)", "int wipe()", "int flaw()",
        "int load(int)", "int spell(int,int)", "int count(int)", "int save(int)", "int restore(int)"
    };

    private static final String[] CONSTANTS = {
        "int NO_SUCH=-1", "int BAD_VALUE=-2", "int BAD_TEXT=-3", "int TOO_MANY=-4", "int NOT_POSSIBLE=-5", "int NONE=-6",
        "long GONE=-1000000000000000000", "int INNER=3", "int OUTER=4", "int MINIMUM=0", "int MEMORY_LEVEL=1",
        "int MEMORY_HOLD=2", "int LOAD_FROM=3", "int LOAD_SLOPE=4", "int LOAD_ZONES=5", "int SWING_TIME=6",
        "int SWING_ZONES=7", "int FORWARD=0", "int REVERSE=1", "int BOTH=2"
    };

    public static void main(String[] args) throws Exception {
        due.holds("the class is public and final", ZoneRelay.class.getModifiers() == (Modifier.PUBLIC | Modifier.FINAL));
        methods();
        constants();
        constructors();
        classesInside();
        due.finish();
    }

    private static void methods() {
        List<String> seen = new ArrayList<>();
        TreeSet<String> publicNames = new TreeSet<>();
        TreeSet<String> otherNames = new TreeSet<>();
        for (Method method : ZoneRelay.class.getDeclaredMethods()) {
            if (Modifier.isPrivate(method.getModifiers())) {
                otherNames.add(method.getName());
                continue;
            }
            due.holds(method + " is only public", method.getModifiers() == Modifier.PUBLIC);
            publicNames.add(method.getName());
            List<String> types = new ArrayList<>();
            for (Class<?> type : method.getParameterTypes()) {
                types.add(type.getName());
            }
            seen.add(method.getReturnType().getName() + " " + method.getName() + "(" + String.join(",", types) + ")");
        }
        due.holds("the methods are those of the document: " + seen, new TreeSet<>(seen).equals(new TreeSet<>(Arrays.asList(METHODS))));
        due.is("number of methods", METHODS.length, seen.size());
        for (Class<?> inside : ZoneRelay.class.getDeclaredClasses()) {
            for (Method method : inside.getDeclaredMethods()) {
                otherNames.add(method.getName());
            }
        }
        otherNames.retainAll(publicNames);
        due.holds("no other method bears a public one's name: " + otherNames, otherNames.isEmpty());
    }

    private static void constants() throws Exception {
        List<String> seen = new ArrayList<>();
        for (Field field : ZoneRelay.class.getDeclaredFields()) {
            if (!Modifier.isPrivate(field.getModifiers())) {
                due.holds(field + " is a public constant", field.getModifiers() == (Modifier.PUBLIC | Modifier.STATIC | Modifier.FINAL));
                seen.add(field.getType().getName() + " " + field.getName() + "=" + field.get(null));
            }
        }
        due.holds("the constants are those of the document: " + seen, new TreeSet<>(seen).equals(new TreeSet<>(Arrays.asList(CONSTANTS))));
    }

    private static void constructors() {
        Constructor<?>[] all = ZoneRelay.class.getDeclaredConstructors();
        due.is("number of constructors", 1, all.length);
        due.is("parameters of the constructor", 0, all[0].getParameterCount());
        due.holds("the constructor is public", Modifier.isPublic(all[0].getModifiers()));
    }

    private static void classesInside() {
        for (Class<?> inside : ZoneRelay.class.getDeclaredClasses()) {
            int modifiers = inside.getModifiers();
            due.holds(inside + " is static", Modifier.isStatic(modifiers));
            due.holds(inside + " is private or package-visible", !Modifier.isPublic(modifiers) && !Modifier.isProtected(modifiers));
        }
        due.holds("at most twelve classes", ZoneRelay.class.getDeclaredClasses().length < 12);
    }
}
