import java.lang.reflect.InvocationTargetException;
import java.lang.reflect.Method;
import java.lang.reflect.Modifier;
import java.util.ArrayList;
import java.util.Comparator;
import java.util.List;

/**
 * Every call with every number at an edge of the document, beside it and far from it, in
 * several towns: it never throws, and answers as the Model does. An object gets 512
 * calls at most; then the town is made anew.
 */
public final class AnyNumbersTest {
    private static final int MIN = Integer.MIN_VALUE, MAX = Integer.MAX_VALUE;
    /** For calls of one number or two. */
    private static final int[] MANY = {MIN, MIN + 1, MIN + 10, -101, -21, -20, -3, -2, -1, 0, 1, 2, 3, 4, 5, 6, 7, 8, 9, 10,
        11, 12, 13, 14, 19, 20, 21, 22, 23, 24, 25, 39, 40, 41, 47, 48, 49, 95, 96, 97, 99, 100, 101, 240, 998, 999, 1000,
        MAX - 1, MAX};
    /** For those of more. */
    private static final int[] FEW = {MIN, -21, -20, -1, 0, 1, 2, 3, 4, 5, 6, 9, 10, 12, 20, 23, 24, 25, 40, 41, 99, 100, 999,
        1000, MAX};
    private static final int CALLS_AT_MOST = 512, ASKED_AT_THE_END = 96;

    private static final String[] NOTHING = {};
    private static final String[] THREE = {"balloon 1 3 0", "balloon 2 1 0", "balloon 3 9 1", "warm 0 20", "warm 2 -20",
        "hours 2", "sheet 0 0 6", "put 0 1 -50", "sheet 1 1 5", "sheet 2 2 0", "shelf 0 0 2", "shelf 1 1 1", "prove 0 9"};
    private static final String[] SIX = {"balloon 0 2 0", "balloon 1 0 0", "balloon 2 1 0", "balloon 3 5 1", "balloon 4 3 1",
        "balloon 5 0 0", "warm 0 40", "warm 3 12", "gap 6", "sheet 0 0 40", "put 0 3 99", "put 0 39 -9", "sheet 3 3 40",
        "shelf 0 0 0", "shelf 1 0 3", "shelf 2 1 3", "shelf 3 0 5", "act 1 3 5", "prove 5 20", "keep", "hours 3",
        "becomes 1 6 999", "becomes 2 7 99"};
    private static final String[] AT_THE_END = {"balloon 2 2 0", "balloon 5 2 0", "hours 2", "prove 0 3", "clock 95", "seed -5",
        "shelf 0 0 1", "sheet 0 0 2"};

    private final Check check = new Check();
    private final String[] first;
    private BalloonTown town;
    private Model model;
    private int calls;

    private AnyNumbersTest(String[] first) {
        this.first = first;
    }

    public static void main(String[] args) throws ReflectiveOperationException {
        for (String[] first : new String[][] {NOTHING, THREE, SIX, AT_THE_END}) {
            AnyNumbersTest test = new AnyNumbersTest(first);
            for (Method call : faceOf(BalloonTown.class)) {
                test.begin();
                test.each(call, new Object[call.getParameterCount()], 0);
                test.askAll();
            }
            test.check.end();
        }
    }

    private static List<Method> faceOf(Class<?> of) {
        List<Method> face = new ArrayList<>();
        for (Method call : of.getDeclaredMethods()) {
            if (Modifier.isPublic(call.getModifiers())) {
                face.add(call);
            }
        }
        face.sort(Comparator.comparing(Method::getName));
        return face;
    }

    private void begin() throws ReflectiveOperationException {
        town = new BalloonTown();
        model = new Model();
        calls = 0;
        for (String call : first) {
            String[] words = call.split(" ");
            int[] numbers = new int[words.length - 1];
            for (int i = 0; i < numbers.length; i++) {
                numbers[i] = Integer.parseInt(words[i + 1]);
            }
            both(words[0], numbers);
        }
    }

    /** Sets the numbers from the i-th on to all that are tried. */
    private void each(Method call, Object[] numbers, int i) throws ReflectiveOperationException {
        if (i == numbers.length) {
            if (calls + ASKED_AT_THE_END >= CALLS_AT_MOST) {
                askAll();
                begin();
            }
            compare(call, numbers);
            return;
        }
        for (int v : numbers.length > 2 ? FEW : MANY) {
            boolean isLong = call.getParameterTypes()[i] == long.class;
            numbers[i] = isLong ? (Object) (v * 0x100000001L) : (Object) v;
            each(call, numbers, i + 1);
        }
    }

    /** What calls may have changed unseen. */
    private void askAll() throws ReflectiveOperationException {
        for (int i = 0; i < 6; i++) {
            for (int what = 0; what < 9; what++) {
                both("balloonOf", i, what);
            }
        }
        for (int hour = 0; hour < 24; hour++) {
            both("warmth", hour);
        }
        for (int what = 0; what < 6; what++) {
            both("many", what);
        }
        for (int i = 0; i < 4; i++) {
            both("item", 0, 0, i);
            both("taken", i, 0);
        }
        both("gap", 3);
        both("seed", 1);
    }

    private void both(String name, int... numbers) throws ReflectiveOperationException {
        Class<?>[] types = new Class<?>[numbers.length];
        Object[] values = new Object[numbers.length];
        for (int i = 0; i < numbers.length; i++) {
            types[i] = int.class;
            values[i] = numbers[i];
        }
        compare(BalloonTown.class.getMethod(name, types), values);
    }

    private void compare(Method call, Object[] numbers) throws ReflectiveOperationException {
        calls++;
        Method due = Model.class.getMethod(call.getName(), call.getParameterTypes());
        int want = (Integer) due.invoke(model, numbers);
        try {
            int got = (Integer) call.invoke(town, numbers);
            if (got != want) {
                check.due(told(call, numbers), got, want);
            }
        } catch (InvocationTargetException thrown) {
            check.part(thrown.getCause().toString());
            check.due(told(call, numbers) + " threw (1)", 1, 0);
        }
    }

    private String told(Method call, Object[] numbers) {
        StringBuilder text = new StringBuilder(String.join("; ", first)).append("; ..; ").append(call.getName());
        for (Object v : numbers) {
            text.append(' ').append(v);
        }
        return text.toString();
    }
}
