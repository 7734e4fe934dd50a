import java.lang.reflect.Field;
import java.lang.reflect.Method;
import java.util.HashMap;
import java.util.Map;
import java.util.regex.Matcher;
import java.util.regex.Pattern;

/**
 * Runs of calls that are written as a text, one behind the other, each with the answer that is due:
 * "spin(0, 900) = 900; lay(0, 3, 1, 2001) = BAD_VALUE". Calls stand on lines of their own or behind ";".
 * Without an answer, a call must not return an error. "24 * pass(1)" is 24 calls; lengths() tells the lengths
 * of all pieces, in quotes; put("y0+1") puts a whole text.
 */
final class Script {
    /** The document promises 512 calls; those that made the walk ready are left out of the count. */
    private static final int MOST_CALLS = 480;
    private static final Pattern PARTS = Pattern.compile("[;\n](?=(?:[^\"\n]*\"[^\"\n]*\")*[^\"\n]*(?:\n|$))");
    private static final Pattern CALL = Pattern.compile("(?:(\\d+) \\* )?(\\w+)\\((.*?)\\)(?: = (.*))?");
    private static final Map<String, Method> METHODS = new HashMap<>();
    private static final Map<String, Long> NAMES = new HashMap<>();

    static {
        for (Method method : RopeWalk.class.getMethods()) {
            METHODS.put(method.getName(), method);
        }
        NAMES.put("MAX", (long) Integer.MAX_VALUE);
        NAMES.put("MIN", (long) Integer.MIN_VALUE);
        for (Field field : RopeWalk.class.getFields()) {
            NAMES.put(field.getName(), constant(field));
        }
    }

    private final String title;
    private final RopeWalk x;
    private int calls;

    private Script(String title, RopeWalk x) {
        this.title = title;
        this.x = x;
    }

    static RopeWalk run(String title, String text) {
        return run(title, new RopeWalk(), text);
    }

    static RopeWalk run(String title, RopeWalk x, String text) {
        Script script = new Script(title, x);
        for (String part : PARTS.split(text.replaceAll("//[^\n]*", ""))) {
            if (!part.isBlank()) {
                script.call(part.trim());
            }
        }
        if (script.calls > MOST_CALLS) {
            Due.is(title + ": the calls", script.calls, MOST_CALLS);
        }
        return x;
    }

    private static long constant(Field field) {
        try {
            return field.getInt(null);
        } catch (IllegalAccessException e) {
            throw new IllegalStateException(e);
        }
    }

    private void call(String part) {
        Matcher call = CALL.matcher(part);
        if (!call.matches()) {
            throw new IllegalArgumentException(title + ": no call: " + part);
        }
        int times = call.group(1) == null ? 1 : Integer.parseInt(call.group(1));
        for (int i = 0; i < times; i++) {
            calls++;
            compare(call.group(2), call.group(3), call.group(4));
        }
    }

    private void compare(String name, String given, String want) {
        String what = title + ": call " + calls + ", " + name + "(" + given + ")";
        if (name.equals("lengths")) {
            Due.is(what, "\"" + Walks.lengths(x).trim() + "\"", want);
            return;
        }
        long got = answer(name, given);
        if (want == null) {
            Due.holds(what + " = " + got + " is no error", got >= 0);
        } else {
            Due.is(what, got, number(want));
        }
    }

    private long answer(String name, String given) {
        if (given.startsWith("\"")) {
            return Walks.put(x, given.substring(1, given.length() - 1));
        }
        String[] numbers = given.isBlank() ? new String[0] : given.split(", *");
        Object[] all = new Object[numbers.length];
        for (int i = 0; i < numbers.length; i++) {
            long number = number(numbers[i]);
            if (name.equals("put")) {
                all[i] = number;
            } else {
                all[i] = Math.toIntExact(number);
            }
        }
        try {
            return (Integer) METHODS.get(name).invoke(x, all);
        } catch (ReflectiveOperationException e) {
            throw new IllegalStateException(title + ": " + name + "(" + given + ")", e);
        }
    }

    private static long number(String text) {
        Long named = NAMES.get(text.trim());
        return named != null ? named : Long.decode(text.trim());
    }
}
