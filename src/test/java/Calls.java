import java.lang.reflect.Method;
import java.lang.reflect.Modifier;
import java.util.HashMap;
import java.util.Map;

/**
 * Plays calls that are written like those of the document's examples, "addMove(3,2)=1 step()=1414", on one object.
 * An answer that isn't given isn't looked at. Constants are written by their names, the least and the greatest value of
 * a parameter's type as MIN and MAX, five equal calls as 5*step(), the appending of each character of a text as
 * type(a100v200).
 */
final class Calls {
    private static final int MOST_CALLS = 512;
    private static final Map<String, Integer> CONSTANTS = Map.of("NO_SUCH_INDEX", -1, "BAD_VALUE", -2,
        "NOT_POSSIBLE", -3, "FULL", -4, "NONE", -9);

    private final Object planner;
    private final Map<String, Method> methods = new HashMap<>();
    private int made;

    Calls(Object planner) {
        this.planner = planner;
        for (Method m : planner.getClass().getDeclaredMethods()) {
            if (!Modifier.isStatic(m.getModifiers()) && !Modifier.isPrivate(m.getModifiers())) {
                methods.put(m.getName(), m);
            }
        }
    }

    /** Plays on a new StepperPlanner and on a new BookPlanner, so that neither strays from the answers that are due. */
    static void play(String... calls) {
        new Calls(new StepperPlanner()).go(calls);
        new Calls(new BookPlanner()).go(calls);
    }

    Calls go(String... calls) {
        for (String part : calls) {
            for (String call : part.trim().split(" +")) {
                playOne(call);
            }
        }
        return this;
    }

    private void playOne(String call) {
        int open = call.indexOf('(');
        int close = call.lastIndexOf(')');
        int star = call.lastIndexOf('*', open);
        if (open < 1 || close < open || close + 1 < call.length() && call.charAt(close + 1) != '=') {
            throw new IllegalArgumentException("not a call: " + call);
        }
        String name = call.substring(star + 1, open);
        String arguments = call.substring(open + 1, close);
        int times = star < 0 ? 1 : Integer.parseInt(call.substring(0, star));
        if (name.equals("type")) {
            type(arguments);
            return;
        }
        for (int i = 0; i < times; i++) {
            int got = answer(name, arguments);
            if (close + 1 < call.length()) {
                Check.due(planner.getClass().getName() + ", call " + made + ", " + call, got,
                    wanted(call.substring(close + 2)));
            }
        }
    }

    private void type(String text) {
        for (int i = 0; i < text.length(); i++) {
            Check.holds("append of " + text.charAt(i) + " in " + text, answer("append", "" + (int) text.charAt(i)) > 0);
        }
    }

    /** Makes one call; the arguments stand as in the call, between the brackets. */
    int answer(String name, String arguments) {
        made++;
        Method method = methods.get(name);
        if (method == null || made > MOST_CALLS) {
            throw new IllegalArgumentException("call " + made + ": " + name);
        }
        String[] words = arguments.isEmpty() ? new String[0] : arguments.split(",");
        Class<?>[] types = method.getParameterTypes();
        Object[] values = new Object[words.length];
        for (int i = 0; i < words.length; i++) {
            values[i] = types[i] == long.class ? (Object) longValue(words[i]) : (Object) intValue(words[i]);
        }
        try {
            return (Integer) method.invoke(planner, values);
        } catch (ReflectiveOperationException e) {
            throw new IllegalStateException(name + "(" + arguments + ")", e);
        }
    }

    private static int intValue(String word) {
        switch (word) {
            case "MIN":
                return Integer.MIN_VALUE;
            case "MAX":
                return Integer.MAX_VALUE;
            default:
                return Integer.parseInt(word);
        }
    }

    private static long longValue(String word) {
        switch (word) {
            case "MIN":
                return Long.MIN_VALUE;
            case "MAX":
                return Long.MAX_VALUE;
            default:
                return Long.parseLong(word);
        }
    }

    private static int wanted(String word) {
        return CONSTANTS.containsKey(word) ? CONSTANTS.get(word) : Integer.parseInt(word);
    }
}
