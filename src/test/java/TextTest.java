/** Promises 2 and 3: THE TAPE and its TEXT. */
public final class TextTest {
    private static final Check check = new Check();

    public static void main(String[] args) {
        feeding();
        reading();
        blanks();
        faults();
        longTape();
        whatStays();
        check.end();
    }

    private static void feeding() {
        check.part("promise 2");
        BalloonTown x = new BalloonTown();
        for (int n : new int[] {0, 9, -1, Integer.MIN_VALUE, Integer.MAX_VALUE}) {
            check.due("feed n " + n, x.feed(0, n), -1);
        }
        check.due("1", x.feed(32, 1), 1);
        for (int i = 1; i < 30; i++) {
            check.due("8 more", x.feed(0x2020202020202020L, 8), 1 + 8 * i);
        }
        check.due("8 more are too many", x.feed(0x2020202020202020L, 8), -2);
        check.due("refused, so as many as before", x.many(4), 233);
        check.due("7 more", x.feed(0x2020202020202020L, 7), 240);
        check.due("FULL", x.feed(32, 1), -2);
        check.due("BAD ahead of FULL", x.feed(32, 9), -1);
        check.due("blanks alone", x.town(), 0);
        check.due("used up", x.many(4), 0);
        check.due("the lowest first, none beyond n", x.feed(0x7878783b31706167L, 5), 5);
        check.due("gap1;", x.feed(0x3b, 1), 6);
        check.due("gap1;;", x.town(), -105);
    }

    private static void reading() {
        check.part("promise 3");
        BalloonTown x = new BalloonTown();
        check.due("town", Check.tell(x, "chapel 9 in 5 gas 0 sand 999 rope 1 bread 99 mouths 9;"
            + "patched 0 in 0 gas 999 bread 0;barge 3 in 4;gap 20;warm 23 40;cold 0 20;warm 1 0;cold 2 0;"
            + "leaky 1 in 1 mouths 0;silk 1 in 1 rope 99;balloon 1 in 1 sand 007;"), 6);
        int[][] due = {{4, 9, 5, 0, 1, 0, 999, 99, 9}, {3, 0, 0, 0, 50, 999, 50, 0, 1}, {5, 3, 4, 0, 50, 100, 50, 20, 1},
            {2, 1, 1, 0, 50, 100, 50, 20, 0}, {1, 1, 1, 0, 99, 100, 50, 20, 1}, {0, 1, 1, 0, 50, 100, 7, 20, 1}};
        for (int i = 0; i < 6; i++) {
            for (int what = 0; what < 9; what++) {
                check.due("balloonOf " + i + " " + what, x.balloonOf(i, what), due[i][what]);
            }
        }
        check.due("warm 23", x.warmth(23), 140);
        check.due("cold 0", x.warmth(0), 80);
        check.due("warm 1", x.warmth(1), 100);
        check.due("gap", x.gap(1), 20);
        check.due("the later one counts", Check.tell(x, "warm 3 5;cold 3 6;gap 4;gap 5;"), 0);
        check.due("cold", x.warmth(3), 94);
        check.due("gap", x.gap(1), 5);
        check.due("cold 0 is gone with the town before", x.warmth(0), 100);
    }

    private static void blanks() {
        check.part("promise 3, blanks");
        BalloonTown x = new BalloonTown();
        check.due("none where none is needed", Check.tell(x, "silk3in2gas7sand8rope9bread6mouths5;warm1 2;gap9;"), 1);
        check.due("COLUMN", x.balloonOf(0, 2), 2);
        check.due("MOUTHS", x.balloonOf(0, 8), 5);
        check.due("WARMTH", x.warmth(1), 102);
        check.due("as many as one likes", Check.tell(x, "   silk   3   in   2   ;   gap   9   ;   "), 1);
        check.due("names as long as they go", Check.tell(x, "silkin 3 in 2;"), -100);
        check.due("parted names", Check.tell(x, "si lk 3 in 2;"), -100);
        check.due("numbers as long as they go", Check.tell(x, "warm 12;"), -107);
        check.due("other blanks are none", Check.tell(x, "gap\t4;"), -103);
        check.due("nor is a new line", Check.tell(x, "gap 4;\ngap 4;"), -106);
    }

    private static void faults() {
        check.part("promise 3, FAULT");
        fault("balloon", 7);
        fault("balloon  ", 9);
        fault("balloon 1", 9);
        fault("balloon 1 in", 12);
        fault("balloon 1 in 1", 14);
        fault("balloon 1 in 1 gas", 18);
        fault("balloon 1 in 1 gas 5", 20);
        fault("gap 4;balloon", 13);
        fault("Balloon 1 in 1;", 0);
        fault("in 1;", 0);
        fault("gas 1;", 0);
        fault("1;", 0);
        fault(";", 0);
        fault("gap 4;;", 6);
        fault("balloon in 1;", 8);
        fault("balloon 10 in 1;", 8);
        fault("balloon 1 on 1;", 10);
        fault("balloon 1 1;", 10);
        fault("balloon 1 in 6;", 13);
        fault("balloon 1 in 1 gas ;", 19);
        fault("balloon 1 in 1 gas 1000;", 19);
        fault("balloon 1 in 1 gas 0001;", 19);
        fault("balloon 1 in 1 sand 1000;", 20);
        fault("balloon 1 in 1 rope 0;", 20);
        fault("balloon 1 in 1 rope 100;", 20);
        fault("balloon 1 in 1 bread 100;", 21);
        fault("balloon 1 in 1 mouths 10;", 22);
        fault("balloon 1 in 1 gas 1 gas 2;", 21);
        fault("balloon 1 in 1 sand 1 gas 2;", 22);
        fault("balloon 1 in 1 rope 1 sand 2;", 22);
        fault("balloon 1 in 1 bread 1 rope 2;", 23);
        fault("balloon 1 in 1 mouths 1 bread 2;", 24);
        fault("balloon 1 in 1 2;", 15);
        fault("balloon 1 in 1 balloon 1 in 1;", 15);
        fault("warm 24 1;", 5);
        fault("warm 1 41;", 7);
        fault("warm 1;", 6);
        fault("warm 1 1 1;", 9);
        fault("warm 1 -1;", 7);
        fault("cold 24 1;", 5);
        fault("cold 1 21;", 7);
        fault("gap 0;", 4);
        fault("gap 21;", 4);
        fault("gap x;", 4);
        fault("gap 4.", 5);
        fault("gap 4" + (char) 187, 5);
        fault((char) 225 + "", 0);
        fault((char) 0 + "", 0);
        fault("`", 0);
        fault("{", 0);
        fault("gap /", 4);
        fault("gap :", 4);
        fault("silk 0 in 0;silk 0 in 0;silk 0 in 0;silk 0 in 0;silk 0 in 0;silk 0 in 0;gap 3; silk", 79);
        fault("silk 0 in 0;silk 0 in 0;silk 0 in 0;silk 0 in 0;silk 0 in 0;silk 0 in 0;kite", 72);
    }

    private static void fault(String text, int place) {
        check.due(text, Check.tell(new BalloonTown(), text), -100 - place);
    }

    private static void longTape() {
        check.part("promise 3, a full tape");
        StringBuilder text = new StringBuilder();
        for (int i = 0; i < 48; i++) {
            text.append("gap").append(i % 9 + 1).append(';');
        }
        BalloonTown x = new BalloonTown();
        check.due("48 statements", Check.tell(x, text.toString()), 0);
        check.due("the last counts", x.gap(1), 3);
        text.setCharAt(239, ' ');
        check.due("the end of a full tape", Check.tell(x, text.toString()), -340);
        check.due("letters alone", Check.tell(x, "a".repeat(240)), -100);
        check.due("digits alone", Check.tell(x, "gap" + "1".repeat(237)), -103);
    }

    private static void whatStays() {
        check.part("promise 3, what stays");
        BalloonTown x = Check.townOf("silk 0 in 0;leaky 0 in 0;warm 2 2;gap 9;");
        x.hours(3);
        x.seed(55);
        x.prove(0, 5);
        check.due("a fault", Check.tell(x, "barge 1 in 1;gap 21;"), -117);
        check.due("balloons stay", x.many(0), 2);
        check.due("KIND stays", x.balloonOf(0, 0), 1);
        check.due("NOW stays", x.many(2), 3);
        check.due("ROWS stay", x.many(3), 5);
        check.due("THE TAPE is used up", x.many(4), 0);
        check.due("GAP stays", x.gap(9), 9);
        check.due("WARMTH stays", x.warmth(2), 102);
        check.due("no text is a town without balloons", x.town(), 0);
        check.due("no balloons", x.many(0), 0);
        check.due("NOW 0", x.many(2), 0);
        check.due("no ROWS", x.many(3), 0);
        check.due("GAP at first", x.gap(9), 3);
        check.due("WARMTH 0", x.warmth(2), 100);
        check.due("z stays", x.seed(1), 55);
        x.balloon(0, 0, 0);
        check.due("a new one is as at first", x.balloonOf(0, 3), 0);
    }
}
