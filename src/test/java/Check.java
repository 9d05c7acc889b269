/** What the project's tests share: a count of wrong answers, and texts for THE TAPE. */
final class Check {
    private int wrong = 0;
    private String part = "";

    void part(String name) {
        part = name;
    }

    void due(String call, int got, int want) {
        if (got != want) {
            wrong++;
            System.out.println(part + ": " + call + " answered " + got + ", due is " + want);
        }
    }

    void end() {
        System.out.println(wrong == 0 ? "all answers are as due" : wrong + " answers are not as due");
        if (wrong != 0) {
            System.exit(1);
        }
    }

    /** The town that a text tells: what town() answers. */
    static int tell(BalloonTown town, String text) {
        for (int at = 0; at < text.length(); at += 8) {
            int n = Math.min(8, text.length() - at);
            town.feed(packed(text, at, n), n);
        }
        return town.town();
    }

    static long packed(String text, int at, int n) {
        long eight = 0;
        for (int i = 0; i < n; i++) {
            eight |= (long) (text.charAt(at + i) & 255) << 8 * i;
        }
        return eight;
    }

    static BalloonTown townOf(String text) {
        BalloonTown town = new BalloonTown();
        int answer = tell(town, text);
        if (answer < 0) {
            throw new IllegalStateException("a test's own text has a fault: " + text + " " + answer);
        }
        return town;
    }
}
