import java.lang.reflect.InvocationTargetException;
import java.lang.reflect.Method;
import java.lang.reflect.Modifier;
import java.util.HashMap;
import java.util.Map;

/**
 * One object, whose calls are told as texts: "wearer(0, 9, 99)". So what is printed is what was called. The document
 * promises nothing beyond 512 calls, so a test that needs more of one object is wrong itself.
 */
final class Run {
    static final int MOST_CALLS = 512;
    private static final Map<String, Method> OF_PROGRAM = methods(BowlerDents.class);
    private static final Map<String, Method> OF_PLAIN = methods(Plain.class);

    private final Object x;
    private final Map<String, Method> methods;
    private int calls = 0;

    Run() {
        x = new BowlerDents();
        methods = OF_PROGRAM;
    }

    private Run(Plain plain) {
        x = plain;
        methods = OF_PLAIN;
    }

    /** The document told a second time, called in the same way. */
    static Run plain() {
        return new Run(new Plain());
    }

    private static Map<String, Method> methods(Class<?> type) {
        Map<String, Method> found = new HashMap<>();
        for (Method m : type.getDeclaredMethods()) {
            if (!Modifier.isPrivate(m.getModifiers())) {
                found.put(m.getName(), m);
            }
        }
        return found;
    }

    /** Calls, and tells the answer. */
    long ask(String call) {
        calls++;
        if (calls > MOST_CALLS) {
            throw new IllegalStateException("call " + calls + " of one object: " + call);
        }
        int open = call.indexOf('(');
        Method m = methods.get(call.substring(0, open));
        String inner = call.substring(open + 1, call.length() - 1).trim();
        return invoke(m, inner.isEmpty() ? new String[0] : inner.split("\\s*,\\s*"), call);
    }

    private long invoke(Method m, String[] told, String call) {
        Class<?>[] types = m.getParameterTypes();
        Object[] arguments = new Object[types.length];
        for (int i = 0; i < types.length; i++) {
            arguments[i] = argument(told[i], types[i]);
        }
        try {
            return ((Number) m.invoke(x, arguments)).longValue();
        } catch (InvocationTargetException e) {
            throw new IllegalStateException(call + " threw " + e.getCause(), e);
        } catch (IllegalAccessException e) {
            throw new IllegalStateException(call, e);
        }
    }

    private static Object argument(String told, Class<?> type) {
        if (type == boolean.class) {
            return told.equals("true");
        }
        long number;
        switch (told) {
            case "MIN":
                number = type == int.class ? Integer.MIN_VALUE : Long.MIN_VALUE;
                break;
            case "MAX":
                number = type == int.class ? Integer.MAX_VALUE : Long.MAX_VALUE;
                break;
            default:
                number = Long.parseLong(told);
                break;
        }
        if (type == long.class) {
            return number;
        }
        return Math.toIntExact(number);
    }

    /** Calls one behind the other, whatever they answer. */
    Run does(String... all) {
        for (String call : all) {
            ask(call);
        }
        return this;
    }

    /** Calls, and looks whether the answer is the one that is due by the sentence that is tried. */
    Run is(String call, long want) {
        Edge.due(call, ask(call), want);
        return this;
    }

    /** Feeds a text, sign by sign. */
    Run text(String text) {
        for (int i = 0; i < text.length(); i++) {
            ask("feed(" + (int) text.charAt(i) + ")");
        }
        return this;
    }

    /** Feeds a text and looks what city() answers. */
    Run city(String text, long want) {
        text(text);
        Edge.due("city() of \"" + text + "\"", ask("city()"), want);
        return this;
    }

    /** Feeds a text, which is a city. */
    Run city(String text) {
        text(text);
        ask("city()");
        return this;
    }

    /** Lets so many days go, 60 a call. */
    Run days(int n) {
        for (int left = n; left > 0; left -= 60) {
            ask("pass(" + Math.min(left, 60) + ")");
        }
        return this;
    }
}
