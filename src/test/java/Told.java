import java.lang.reflect.Method;

/**
 * Calls told as texts: "give 0 1 0 5" is give(0, 1, 0, 5), MIN and MAX are the least
 * and the greatest int. "tape gap 4;" feeds a text, "tell gap 4;" feeds it and calls town().
 */
final class Told {
    private Told() {
    }

    static int answer(BalloonTown town, String call) {
        if (call.startsWith("tape ")) {
            return fed(town, call.substring(5));
        }
        if (call.startsWith("tell ")) {
            return Check.tell(town, call.substring(5));
        }
        String[] words = call.split(" ");
        Method method = named(words[0]);
        Class<?>[] types = method.getParameterTypes();
        if (types.length != words.length - 1) {
            throw new IllegalStateException("a test's own call has other numbers: " + call);
        }
        Object[] values = new Object[types.length];
        for (int i = 0; i < types.length; i++) {
            long v = number(words[i + 1]);
            values[i] = types[i] == long.class ? (Object) v : (Object) (int) v;
        }
        try {
            return (Integer) method.invoke(town, values);
        } catch (ReflectiveOperationException e) {
            throw new IllegalStateException(call, e);
        }
    }

    /** How many calls of the object that is. */
    static int calls(String call) {
        int feeds = (call.length() - "tell ".length() + 7) / 8;
        return call.startsWith("tell ") ? feeds + 1 : call.startsWith("tape ") ? feeds + 1 : 1;
    }

    private static int fed(BalloonTown town, String text) {
        int size = town.many(4);
        for (int at = 0; at < text.length(); at += 8) {
            int n = Math.min(8, text.length() - at);
            size = town.feed(Check.packed(text, at, n), n);
        }
        return size;
    }

    private static Method named(String name) {
        for (Method method : BalloonTown.class.getMethods()) {
            if (method.getName().equals(name) && method.getReturnType() == int.class) {
                return method;
            }
        }
        throw new IllegalStateException("a test's own call is none: " + name);
    }

    private static long number(String word) {
        switch (word) {
            case "MIN":
                return Integer.MIN_VALUE;
            case "MAX":
                return Integer.MAX_VALUE;
            default:
                return word.startsWith("0x") ? Long.parseUnsignedLong(word.substring(2), 16) : Long.parseLong(word);
        }
    }
}
