import java.util.ArrayList;
import java.util.List;
import java.util.regex.Matcher;
import java.util.regex.Pattern;

/**
 * Tests of one sentence of the document each: a run of calls on a new object, told as
 * "gap 21 = -1": the call (see Told) and the answer that is due. "warmth 0..23 = 100" is
 * that call with each of these numbers.
 */
final class Sentences {
    private static final Pattern RANGE = Pattern.compile("(-?\\d+)\\.\\.(-?\\d+)");
    private final Check check = new Check();
    private final int[] tests = new int[45];

    void sentence(int promise, String told, String... rows) {
        tests[promise]++;
        check.part("promise " + promise + ", \"" + told + "\"");
        BalloonTown town = new BalloonTown();
        int calls = 0;
        for (String row : rows) {
            int at = row.lastIndexOf(" = ");
            for (String call : each(row.substring(0, at))) {
                check.due(call, Told.answer(town, call), Integer.parseInt(row.substring(at + 3)));
                calls += Told.calls(call);
            }
        }
        check.due("calls beyond 512", Math.max(0, calls - 512), 0);
    }

    private static List<String> each(String call) {
        List<String> calls = new ArrayList<>();
        Matcher range = RANGE.matcher(call);
        if (call.startsWith("tell ") || call.startsWith("tape ") || !range.find()) {
            calls.add(call);
            return calls;
        }
        for (int v = Integer.parseInt(range.group(1)); v <= Integer.parseInt(range.group(2)); v++) {
            calls.addAll(each(call.substring(0, range.start()) + v + call.substring(range.end())));
        }
        return calls;
    }

    /** Each of these promises must have had a test. */
    void end(int firstPromise, int lastPromise) {
        for (int promise = firstPromise; promise <= lastPromise; promise++) {
            check.part("promise " + promise);
            check.due("has it a test (1)", Math.min(1, tests[promise]), 1);
        }
        check.end();
    }
}
