import java.lang.reflect.InvocationTargetException;
import java.lang.reflect.Method;
import java.lang.reflect.Modifier;
import java.util.Arrays;
import java.util.Set;

/**
 * "No call may ever throw or fail to end, for any arguments in any state": each method with each mix of good, wrong
 * and farthest arguments, at a new object, at one with SLIPS of each KIND, and at a full one.
 */
public final class AnyArgumentsTest extends Checks {
    private static final Set<String> ACTS = Set.of("type", "strike", "mark", "undo", "carry", "all",
            "part", "left", "bound", "undone", "cursor");

    private static final int[] MANY = {MIN, MIN + 1, -4, -3, -2, -1, 0, 1, 2, 3, 4, 5, 6, 12, 13, 254, 255, 256, 257,
        767, 768, 1022, 1023, 1024, MAX - 1, MAX};
    private static final int[] SOME = {MIN, -2, -1, 0, 1, 2, 3, 4, 256, MAX};
    private static final int[] FEW = {MIN, -1, 0, 1, 3, 256, MAX};

    private static final Sight.Run[] STATES = {x -> { }, x -> mix(x), x -> mixAndFill(x)};
    private static final int[] CALLS_OF_STATES = {0, 14, 268};

    /** What stands in status() when an object is new at hand; ASKS must leave it. */
    private static final int FIRST_FINDING = BEYOND;

    private static ManyPens object;
    private static int calls;

    private static void mix(ManyPens x) {
        x.type(0, 0, 'a', 'b', 'c');
        x.all(0, 1);
        x.strike(1, 1, 1);
        x.mark(0, 0, 2, 1, 3);
        x.type(1, 1, 'X', 'Y', -1);
        x.all(1, 0);
        x.undo(0, 0);
        x.undo(1, 1);
        x.cursor(0, 0, 1, 0);
        x.cursor(1, 1, 1, 1);
        x.carry(4, 2);
        x.carry(5, 3);
        x.type(3, 0, 'z', -1, -1);
        x.cursor(3, 2, 1, 1);
    }

    private static void mixAndFill(ManyPens x) {
        mix(x);
        for (int slip = x.slips(); slip < MOST_SLIPS; slip++) {
            x.type(slip % 6, 0, 'f', 'g', 'h');
        }
        x.all(5, 1);
        x.carry(255, 2);
    }

    /** A new object of that state as soon as the one at hand has no two calls left. */
    private static void refresh(int state) {
        if (object == null || calls + 2 > MOST_CALLS) {
            object = new ManyPens();
            STATES[state].on(object);
            calls = CALLS_OF_STATES[state] + 2;
            refused(13, "left of no slip", object, object.left(MOST_SLIPS), FIRST_FINDING);
        }
    }

    private static int answerOf(Method method, Object[] arguments) throws IllegalAccessException {
        try {
            Object answer = method.invoke(object, arguments);
            return answer instanceof Boolean yes ? (yes ? 1 : 0) : (Integer) answer;
        } catch (InvocationTargetException thrown) {
            due(LANGUAGE, "rule 7: " + written(method, arguments) + " threw " + thrown.getCause(), 1, 0);
            return 0;
        }
    }

    private static String written(Method method, Object[] arguments) {
        return method.getName() + Arrays.toString(arguments);
    }

    /** A refused ACT answers NONE, one that is done never does; an ASK leaves the FINDING. */
    private static void call(Method method, Object[] arguments, int state) throws IllegalAccessException {
        int answer = answerOf(method, arguments);
        int status = object.status();
        calls += 2;
        boolean holds = ACTS.contains(method.getName())
                ? status >= FINE && status <= KIND && (answer == NONE) == (status != FINE)
                : status == FIRST_FINDING;
        due(29, written(method, arguments) + " in state " + state + " answered " + answer + ", status " + status,
                holds, true);
    }

    private static void eachMix(Method method, int state) throws IllegalAccessException {
        int parameters = method.getParameterCount();
        int[] values = parameters > 4 ? FEW : parameters > 2 ? SOME : MANY;
        int mixes = 1;
        for (int i = 0; i < parameters; i++) {
            mixes *= values.length;
        }
        object = null;
        for (int mix = 0; mix < mixes; mix++) {
            Object[] arguments = new Object[parameters];
            int rest = mix;
            for (int i = 0; i < parameters; i++) {
                arguments[i] = values[rest % values.length];
                rest /= values.length;
            }
            refresh(state);
            call(method, arguments, state);
        }
    }

    public static void main(String[] args) throws IllegalAccessException {
        for (int state = 0; state < STATES.length; state++) {
            for (Method method : ManyPens.class.getDeclaredMethods()) {
                if (Modifier.isPublic(method.getModifiers())) {
                    eachMix(method, state);
                }
            }
        }
        end();
    }
}
