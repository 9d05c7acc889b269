import java.lang.reflect.Method;
import java.util.ArrayList;
import java.util.List;
import java.util.Random;

/** Runs of drawn calls (the same ones each time) on BalloonTown and on the Model. */
public final class AgainstModelTest {
    /** Each call with its numbers: b a BALLOON's, else from..to; some are drawn beyond. */
    private static final String[] CALLS = {
        "warm 0..23 -20..40", "warmth 0..23", "gap 1..20", "gap 1..4", "balloon 0..5 0..9 0..2",
        "balloon 0..5 0..9 0..1", "balloonOf b 0..11", "balloonOf b 9..11", "becomes b 2..8 0..9",
        "becomes b 3..8 0..99", "becomes b 2..2 0..5", "becomes b 3..3 0..60", "becomes b 3..3 0..20",
        "becomes b 4..4 1..99", "becomes b 5..6 0..999", "becomes b 5..5 60..200", "becomes b 6..6 0..80",
        "becomes b 6..6 980..999", "becomes b 7..7 0..99", "becomes b 8..8 0..9", "mind b 0..5 0..9",
        "pour b 1..999", "pour b 1..20", "give b b 0..1 1..99", "give b b 0..1 1..9", "give b b 0..1 1..9",
        "touches b", "above b 0..1", "hours 0..3", "hours 0..6", "hours 0..48", "clock 0..96", "clock 0..30",
        "height b 0..48", "first 0..1", "clear b 0..48", "clear b 0..3", "leastSand b 0..24",
        "leastSand b 0..5", "ropeFor b 0..24", "ropeFor b 0..5", "columnFor b 0..24", "columnFor b 0..5",
        "lasts b", "reached b", "help 1..24", "help 1..6", "cold", "highest 0..48", "highest 0..9",
        "seed -2147483648..2147483647", "draw 0..23", "prove b 1..20", "prove b 9..20", "row 0..19 0..2",
        "row 0..5 0..2", "alterRow 0..19 0..2 0..99", "judge b", "judge b", "warms 0..3 0..40 0..23 0..24",
        "warms 0..3 0..9 0..9 0..9", "sheet 0..3 -1..3 0..40", "sheet 0..1 0..0 20..40",
        "put 0..3 0..40 -100000..100000", "put 0..1 0..9 -40..60", "item 0..3 0..3 0..40",
        "item 0..1 0..0 0..9", "shelf 0..3 0..2 0..3", "shelf 0..3 0..0 b", "taken 0..3 0..5",
        "taken 0..3 0..13", "act 0..3 0..3 -9..9", "act 0..3 0..3 -9..9",
        "act 0..3 0..3 -2147483648..2147483647", "trace 0..10", "trace 0..5", "many 0..5", "keep", "again",
    };
    private static final String[] KINDS = {"balloon", "silk", "leaky", "patched", "chapel", "barge"};
    private static final int[] FAR = {Integer.MIN_VALUE, Integer.MAX_VALUE, -1, 0, 100, 1000, -1000000};

    private final Random random = new Random(20261118);
    private final Check check = new Check();
    private final List<String> said = new ArrayList<>();
    private BalloonTown town;
    private Model model;
    private boolean same;

    public static void main(String[] args) throws Exception {
        AgainstModelTest test = new AgainstModelTest();
        int runs = args.length > 0 ? Integer.parseInt(args[0]) : 400;
        for (int run = 0; run < runs; run++) {
            test.run(run);
        }
        test.check.end();
    }

    private void run(int run) throws Exception {
        check.part("run " + run);
        town = new BalloonTown();
        model = new Model();
        said.clear();
        same = true;
        boolean onlyTexts = run % 4 == 3;
        int first = random.nextInt(8);
        for (int i = 0; i < first; i++) {
            both("balloon", new int[] {random.nextInt(6), random.nextInt(10), random.nextInt(2)});
        }
        for (int i = 0; i < 3; i++) {
            both("shelf", new int[] {i, 0, i});
            both("sheet", new int[] {i, i, 9});
        }
        while (said.size() < 400 && same) {
            if (random.nextInt(onlyTexts ? 2 : 200) == 0) {
                tell();
            } else {
                drawnCall();
            }
        }
    }

    private void drawnCall() throws Exception {
        String[] words = CALLS[random.nextInt(CALLS.length)].split(" ");
        int[] numbers = new int[words.length - 1];
        for (int i = 0; i < numbers.length; i++) {
            String[] range = words[i + 1].split("\\.\\.");
            numbers[i] = words[i + 1].equals("b") ? drawn(0, model.many(0) - 1)
                : drawn(Integer.parseInt(range[0]), Integer.parseInt(range[1]));
        }
        if (words[0].equals("act")) {
            both("act", numbers);
            for (int i = 0; i < 12; i++) {
                both("trace", new int[] {i});
            }
            return;
        }
        both(words[0], numbers);
    }

    private int drawn(int least, int most) {
        int way = random.nextInt(60);
        if (way == 0) return FAR[random.nextInt(FAR.length)];
        if (way == 1) return least - 1;
        if (way == 2) return most + 1;
        if (way == 3) return least;
        if (way == 4) return most;
        return most < least ? 0 : (int) (least + (long) (random.nextDouble() * ((long) most - least + 1)));
    }

    private void both(String name, int[] numbers) throws Exception {
        Class<?>[] types = new Class<?>[numbers.length];
        Object[] values = new Object[numbers.length];
        StringBuilder call = new StringBuilder(name).append('(');
        for (int i = 0; i < numbers.length; i++) {
            types[i] = int.class;
            values[i] = numbers[i];
            call.append(i == 0 ? "" : ", ").append(numbers[i]);
        }
        Method mine = BalloonTown.class.getMethod(name, types);
        Method due = Model.class.getMethod(name, types);
        compare(call.append(')').toString(), (Integer) mine.invoke(town, values), (Integer) due.invoke(model, values));
    }

    private void compare(String call, int got, int want) {
        said.add(call);
        check.due(call, got, want);
        if (got != want && same) {
            same = false;
            System.out.println(String.join("; ", said));
        }
    }

    // ---- texts

    private void tell() throws Exception {
        String text = drawnText();
        for (int at = 0; at < text.length(); at += 8) {
            int n = Math.min(8, text.length() - at);
            long eight = Check.packed(text, at, n);
            if (n < 8) {
                eight |= random.nextLong() << 8 * n;
            }
            compare("feed(" + eight + ", " + n + ")", town.feed(eight, n), model.feed(eight, n));
        }
        if (random.nextInt(30) == 0) {
            int n = random.nextInt(11) - 1;
            compare("feed(0, " + n + ")", town.feed(0, n), model.feed(0, n));
        }
        compare("town()", town.town(), model.town());
        for (int i = 0; i < 6; i++) {
            for (int what = 0; what < 9 && random.nextInt(3) > 0; what++) {
                both("balloonOf", new int[] {i, what});
            }
        }
    }

    private String drawnText() {
        StringBuilder text = new StringBuilder();
        int statements = random.nextInt(13);
        for (int i = 0; i < statements; i++) {
            statement(text);
        }
        if (random.nextInt(3) == 0 && text.length() > 0) {
            spoil(text);
        }
        return text.toString();
    }

    private void statement(StringBuilder text) {
        switch (random.nextInt(6)) {
            case 0:
                text.append("warm ").append(num(0, 23)).append(' ').append(num(0, 40));
                break;
            case 1:
                text.append("cold ").append(num(0, 23)).append(' ').append(num(0, 20));
                break;
            case 2:
                text.append("gap").append(blanks()).append(num(1, 20));
                break;
            default:
                text.append(KINDS[random.nextInt(6)]).append(blanks()).append(num(0, 9)).append(blanks());
                text.append("in").append(blanks()).append(num(0, 5));
                part(text, "gas", 0, 999);
                part(text, "sand", 0, 999);
                part(text, "rope", 1, 99);
                part(text, "bread", 0, 99);
                part(text, "mouths", 0, 9);
        }
        text.append(blanks()).append(';').append(blanks());
    }

    private void part(StringBuilder text, String name, int least, int most) {
        if (random.nextInt(4) == 0) {
            text.append(blanks()).append(name).append(blanks()).append(num(least, most));
        }
    }

    private String num(int least, int most) {
        int way = random.nextInt(60);
        if (way == 0) return "" + (most + 1);
        if (way == 1) return "0" + least;
        if (way == 2) return "000" + least;
        if (way == 3 && least > 0) return "" + (least - 1);
        if (way == 4) return "" + most;
        return "" + (least + random.nextInt(most - least + 1));
    }

    private String blanks() {
        return " ".repeat(random.nextInt(3));
    }

    private void spoil(StringBuilder text) {
        int at = random.nextInt(text.length());
        switch (random.nextInt(4)) {
            case 0:
                text.setLength(at);
                break;
            case 1:
                text.deleteCharAt(at);
                break;
            case 2:
                text.setCharAt(at, (char) random.nextInt(256));
                break;
            default:
                text.insert(at, " ;a9\n".charAt(random.nextInt(5)));
        }
    }
}
