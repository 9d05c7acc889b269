/** Promises 30 to 34: ROWS, THE READER, and WARMTHS from a SHEET. */
public final class RowsTest {
    private static final int HEIGHT = 3;
    private static final int MIN = Integer.MIN_VALUE, MAX = Integer.MAX_VALUE;
    private static final Check check = new Check();

    public static void main(String[] args) {
        proving();
        altering();
        judging();
        judgingAtTheEnd();
        warming();
        check.end();
    }

    /** 0 leaks and rises, 1 and 2 hang at 20 on their ropes in its COLUMN. */
    private static BalloonTown rising() {
        BalloonTown x = Check.townOf("leaky 0 in 0 gas 150;balloon 0 in 0 gas 999 rope 20;balloon 0 in 0 gas 999 rope 20;");
        x.becomes(1, HEIGHT, 20);
        x.becomes(2, HEIGHT, 20);
        return x;
    }

    private static void proving() {
        check.part("promises 30, 31");
        BalloonTown x = rising();
        check.due("no ROWS", x.row(0, 0), -9);
        check.due("prove", x.prove(0, 3), 3);
        int[][] due = {{10, 148, 0}, {20, 146, 2}, {30, 144, 0}};
        for (int i = 0; i < 3; i++) {
            for (int what = 0; what < 3; what++) {
                check.due("row " + i + " " + what, x.row(i, what), due[i][what]);
            }
        }
        int[][] none = {{3, 0}, {-1, 0}, {0, 3}, {0, -1}, {MAX, 0}, {0, MIN}};
        for (int[] n : none) {
            check.due("none such", x.row(n[0], n[1]), -9);
        }
        check.due("many", x.many(3), 3);
        check.due("nothing changes", x.balloonOf(0, HEIGHT), 0);
        for (int n : new int[] {0, 21, -1, MIN, MAX}) {
            check.due("wrong n", x.prove(0, n), -1);
        }
        check.due("no balloon", x.prove(3, 1), -1);
        check.due("refused, so as they were", x.many(3), 3);
        check.due("the most", x.prove(0, 20), 20);
        check.due("the last", x.row(19, 1), 110);
        check.due("fewer", x.prove(1, 1), 1);
        check.due("no longer", x.row(1, 0), -9);
        check.due("with how many", x.row(0, 2), 1);
        x.clock(90);
        check.due("as far as there are such", x.prove(0, 20), 6);
        x.clock(96);
        check.due("none", x.prove(0, 20), 0);
        check.due("none", x.many(3), 0);
    }

    private static void altering() {
        check.part("promise 32");
        BalloonTown x = rising();
        x.prove(0, 3);
        check.due("what it was", x.alterRow(1, 1, MIN), 146);
        check.due("as it is", x.row(1, 1), MIN);
        check.due("again", x.alterRow(1, 1, 146), MIN);
        int[][] none = {{3, 0}, {-1, 0}, {0, 3}, {0, -1}, {MAX, 0}, {0, MIN}};
        for (int[] n : none) {
            check.due("none such", x.alterRow(n[0], n[1], 7), -9);
        }
        check.due("all as it was", x.judge(0), 0);
    }

    private static void judging() {
        check.part("promise 33");
        BalloonTown x = rising();
        check.due("no ROWS", x.judge(0), 0);
        check.due("no balloon", x.judge(3), -1);
        check.due("no balloon", x.judge(-1), -1);
        x.prove(0, 20);
        check.due("right", x.judge(0), 0);
        check.due("of another one", x.judge(1), 1);
        for (int what = 0; what < 3; what++) {
            int was = x.row(19, what);
            x.alterRow(19, what, was + 1);
            check.due("the last is wrong", x.judge(0), 20);
            x.alterRow(19, what, was);
        }
        x.alterRow(4, 0, -1);
        x.alterRow(7, 0, -1);
        check.due("the first that is wrong", x.judge(0), 5);
        x.prove(2, 5);
        check.due("of one that goes alike", x.judge(1), 0);
        x.becomes(1, 2, 1);
        x.prove(2, 5);
        x.gap(1);
        check.due("with how many it touches, by the GAP now", x.judge(2), 0);
        x.gap(11);
        check.due("10 and 20 touch", x.judge(2), 1);
        x.gap(1);
        x.hours(1);
        check.due("from now on", x.judge(2), 1);
    }

    private static void judgingAtTheEnd() {
        check.part("promise 33, NOW 96");
        BalloonTown x = Check.townOf("balloon 0 in 0 gas 999;");
        x.becomes(0, HEIGHT, 50);
        x.prove(0, 10);
        x.clock(86);
        check.due("10 HOURS are left", x.judge(0), 0);
        x.clock(87);
        check.due("9 are left", x.judge(0), 10);
        x.clock(96);
        check.due("none is left", x.judge(0), 1);
    }

    private static void warming() {
        check.part("promise 34");
        BalloonTown x = new BalloonTown();
        check.due("missing", x.warms(0, 0, 0, 0), -11);
        x.sheet(0, 0, 5);
        int[] items = {-21, -20, 41, 40, 127};
        for (int i = 0; i < 5; i++) {
            x.put(0, i, items[i]);
        }
        check.due("all of them", x.warms(0, 0, 19, 5), 5);
        int[] due = {80, 80, 140, 140, 140};
        for (int i = 0; i < 5; i++) {
            check.due("held " + i, x.warmth(19 + i), due[i]);
        }
        check.due("from 1 on", x.warms(0, 1, 0, 1), 1);
        check.due("one alone", x.warmth(0), 80);
        check.due("not the next", x.warmth(1), 100);
        check.due("none, from the end", x.warms(0, 5, 3, 0), 0);
        check.due("none, beyond the end", x.warms(0, 6, 3, 0), -12);
        check.due("too many", x.warms(0, 1, 3, 5), -12);
        check.due("a place below 0", x.warms(0, -1, 3, 1), -12);
        check.due("far", x.warms(0, MAX, 3, 1), -12);
        check.due("far", x.warms(0, MIN, 3, 1), -12);
        check.due("beyond HOUR 23", x.warms(0, 0, 20, 5), -1);
        int[][] wrong = {{4, 0, 0, 1}, {-1, 0, 0, 1}, {0, 0, 24, 0}, {0, 0, -1, 1}, {0, 0, 0, 25}, {0, 0, 0, -1},
            {0, 0, 23, 2}, {0, 0, 23, MAX}};
        for (int[] w : wrong) {
            check.due("wrong", x.warms(w[0], w[1], w[2], w[3]), -1);
        }
        x.sheet(1, 1, 2);
        check.due("shorts", x.warms(1, 0, 0, 1), -13);
        check.due("another sort ahead of a place outside", x.warms(1, 9, 0, 1), -13);
        check.due("BAD ahead of nothing there", x.warms(2, 0, 24, 1), -1);
        x.sheet(2, 0, 40);
        check.due("a whole day", x.warms(2, 16, 0, 24), 24);
        check.due("a whole day, too far", x.warms(2, 17, 0, 24), -12);
        check.due("all 0", x.warmth(23), 100);
    }
}
