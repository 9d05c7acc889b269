/** Promises 35 to 42: SHEETS, SHELVES, ACTS and THE TRACE. */
public final class HostTest {
    private static final int MIN = Integer.MIN_VALUE, MAX = Integer.MAX_VALUE;
    private static final int LIFTS = 0, SINKS = 1, SHARES = 2, TELLS = 3;
    private static final Check check = new Check();

    public static void main(String[] args) {
        sheets();
        items();
        shelves();
        takenKinds();
        takenRows();
        acts();
        moreActs();
        partedByNothing();
        wrapping();
        noAct();
        counting();
        check.end();
    }

    private static void sheets() {
        check.part("promise 35");
        BalloonTown x = new BalloonTown();
        check.due("none of it", x.sheet(3, 3, 0), 1);
        check.due("nothing in it", x.item(3, 3, 0), -12);
        check.due("the most", x.sheet(3, 2, 40), 1);
        check.due("the last", x.item(3, 2, 39), 0);
        check.due("too many", x.sheet(3, 2, 41), -1);
        check.due("below 0", x.sheet(3, 2, -1), -14);
        check.due("far below 0", x.sheet(3, 2, MIN), -14);
        for (int sort : new int[] {-2, 4, MIN, MAX}) {
            check.due("no sort", x.sheet(3, sort, 1), -1);
            check.due("BAD ahead of -14", x.sheet(3, sort, -1), -1);
        }
        for (int sheet : new int[] {-1, 4, MIN, MAX}) {
            check.due("no sheet", x.sheet(sheet, 0, 1), -1);
            check.due("no sheet, missing", x.sheet(sheet, -1, 1), -1);
        }
        x.put(3, 0, 5);
        check.due("all 0 again", x.sheet(3, 2, 1), 1);
        check.due("0", x.item(3, 2, 0), 0);
        for (int n : new int[] {0, 41, -1, MIN, MAX}) {
            check.due("missing; n counts nothing", x.sheet(3, -1, n), 1);
            check.due("missing", x.item(3, 2, 0), -11);
        }
    }

    private static void items() {
        check.part("promises 36, 37");
        int[] narrowed = {-112, 12944, -1000000880, -1000000880};
        BalloonTown x = new BalloonTown();
        for (int sort = 0; sort < 4; sort++) {
            check.due("missing", x.put(sort, 0, 1), -11);
            check.due("missing, wherever", x.put(sort, -1, 1), -11);
            x.sheet(sort, sort, 3);
            check.due("put", x.put(sort, 2, -1000000880), 1);
            check.due("narrowed to " + sort, x.item(sort, sort, 2), narrowed[sort]);
            check.due("its neighbour", x.item(sort, sort, 1), 0);
            for (int other = 0; other < 4; other++) {
                if (other != sort) {
                    check.due("another sort", x.item(sort, other, 2), -13);
                    check.due("another sort, outside", x.item(sort, other, 3), -13);
                }
            }
            for (int i : new int[] {-1, 3, MIN, MAX}) {
                check.due("outside", x.put(sort, i, 1), -12);
                check.due("outside", x.item(sort, sort, i), -12);
            }
        }
        for (int sheet : new int[] {-1, 4, MIN, MAX}) {
            check.due("no sheet", x.put(sheet, 0, 1), -1);
            check.due("no sheet", x.item(sheet, 0, 0), -1);
        }
        check.due("no sort", x.item(0, 4, 0), -1);
        check.due("no sort", x.item(0, -1, 0), -1);
        x.put(0, 0, 128);
        check.due("a byte of 128", x.item(0, 0, 0), -128);
        x.put(1, 0, 32768);
        check.due("a short of 32768", x.item(1, 1, 0), -32768);
        x.put(3, 0, -12);
        check.due("as low as a refusal", x.item(3, 3, 0), -12);
    }

    private static void shelves() {
        check.part("promise 38");
        BalloonTown x = new BalloonTown();
        check.due("no balloon", x.shelf(0, 0, 0), -1);
        x.balloon(0, 0, 0);
        check.due("a balloon", x.shelf(0, 0, 0), 1);
        check.due("no balloon", x.shelf(0, 0, 1), -1);
        check.due("no balloon", x.shelf(0, 0, -1), -1);
        check.due("refused, so it stays", x.taken(0, 0), 0);
        check.due("no sheet", x.shelf(0, 1, 4), -1);
        check.due("no sheet", x.shelf(0, 1, -1), -1);
        check.due("no what", x.shelf(0, 3, 0), -1);
        check.due("no what", x.shelf(0, -1, 0), -1);
        for (int shelf : new int[] {-1, 4, MIN, MAX}) {
            check.due("no shelf", x.shelf(shelf, 0, 0), -1);
            check.due("no shelf", x.shelf(shelf, 2, 0), -1);
        }
        check.due("a missing sheet's row is nothing", x.shelf(0, 1, 3), 1);
        check.due("nothing", x.taken(0, 0), -11);
        check.due("nothing, for a row", x.taken(0, 12), -11);
        x.shelf(0, 0, 0);
        check.due("nothing, whatever n is", x.shelf(0, 2, MIN), 1);
        check.due("nothing", x.taken(0, 0), -11);
    }

    private static void takenKinds() {
        check.part("promise 39, KINDS");
        boolean[][] isOne = {
            {true, false, false, false, false, false},
            {true, true, false, false, false, false},
            {true, false, true, false, false, false},
            {true, false, true, true, false, false},
            {true, true, false, false, true, false},
            {true, false, false, false, false, true},
        };
        BalloonTown x = new BalloonTown();
        x.balloon(0, 0, 0);
        x.balloon(0, 0, 0);
        x.shelf(2, 0, 1);
        for (int kind = 0; kind < 6; kind++) {
            x.mind(1, kind, 0);
            for (int as = 0; as < 6; as++) {
                check.due(kind + " taken for " + as, x.taken(2, as), isOne[kind][as] ? 1 : -13);
            }
            check.due("taken for a row", x.taken(2, 10), -13);
        }
        for (int as : new int[] {-1, 6, 9, 14, MIN, MAX}) {
            check.due("no such as", x.taken(2, as), -1);
            check.due("BAD ahead of nothing there", x.taken(0, as), -1);
        }
        check.due("no shelf", x.taken(4, 0), -1);
        check.due("no shelf", x.taken(-1, 0), -1);
        Check.tell(x, "silk 1 in 1;");
        check.due("no such one any more", x.taken(2, 0), -11);
        check.due("nothing acts", x.act(2, LIFTS, 5), 0);
        check.due("a new balloon", x.balloon(5, 0, 0), 1);
        check.due("held by its number", x.taken(2, 5), 1);
    }

    private static void takenRows() {
        check.part("promise 39, rows");
        BalloonTown x = new BalloonTown();
        for (int sort = 0; sort < 4; sort++) {
            x.sheet(1, sort, 7 + sort);
            x.shelf(3, 1, 1);
            for (int as = 10; as < 14; as++) {
                check.due(sort + " taken for " + as, x.taken(3, as), as - 10 == sort ? 7 + sort : -13);
            }
            check.due("taken for a balloon", x.taken(3, 0), -13);
        }
        x.sheet(1, 0, 2);
        check.due("the row that the SHEET had", x.taken(3, 13), 10);
        x.sheet(1, -1, 0);
        check.due("still", x.taken(3, 13), 10);
        x.sheet(0, 2, 0);
        x.shelf(0, 1, 0);
        check.due("a row of none is a row", x.taken(0, 12), 0);
    }

    /** All with n 1, a 3 and x 10. */
    private static void acts() {
        check.part("promises 40, 41");
        int[][] answers = {{11, 22, 5, 21}, {11, 19, 5, 16}, {33, 66, 5, 65}, {-33, -72, 5, -69}, {10, 17, 7, 18}, {11, 22, 9, 42}};
        int[][][] traces = {
            {{10}, {11, 10}, {12}, {13, 11, 10}},
            {{10}, {20, 11, 10}, {12}, {13, 20, 11, 10}},
            {{30, 10}, {11, 30, 10}, {12}, {31, 13, 11, 30, 10, 12}},
            {{40, 30, 10}, {41, 11, 40, 30, 10, 40, 30, 10}, {12}, {31, 13, 41, 11, 40, 30, 10, 40, 30, 10, 12}},
            {{51, 10}, {20, 11, 51, 10}, {50, 12}, {13, 20, 11, 51, 10}},
            {{10}, {11, 10}, {61, 12, 10}, {60, 13, 11, 10}},
        };
        BalloonTown x = held();
        for (int kind = 0; kind < 6; kind++) {
            x.mind(1, kind, 3);
            for (int act = 0; act < 4; act++) {
                check.due("kind " + kind + " act " + act, x.act(0, act, 10), answers[kind][act]);
                traceIs("kind " + kind + " act " + act, x, traces[kind][act]);
            }
        }
    }

    private static void moreActs() {
        check.part("promise 40, other numbers");
        BalloonTown x = held();
        x.mind(1, 4, 3);
        check.due("11 by 2, and ^ 1", x.act(0, SHARES, 9), 4);
        x.mind(1, 2, 2);
        check.due("66 ^ 2, and 1 by 1", x.act(0, TELLS, 10), 65);
        x.mind(1, 3, 2);
        check.due("-72 ^ 2, and 1 by 1", x.act(0, TELLS, 10), -69);
        x.shelf(1, 0, 0);
        check.due("another SHELF, number 0", x.act(1, SHARES, 10), 3);
    }

    private static void partedByNothing() {
        check.part("promise 40, -15");
        BalloonTown x = held();
        int[][] traces = {{12}, {12}, {12}, {12}, {50, 12}, {61, 12}};
        for (int kind = 0; kind < 6; kind++) {
            x.mind(1, kind, 1);
            check.due("shares, kind " + kind, x.act(0, SHARES, 10), -15);
            traceIs("shares, kind " + kind, x, traces[kind]);
        }
        x.mind(1, 2, 1);
        check.due("tells of a leaky one", x.act(0, TELLS, 10), -15);
        traceIs("tells of a leaky one", x, new int[] {31, 13, 11, 30, 10, 12});
        x.mind(1, 3, 1);
        check.due("tells of a patched one", x.act(0, TELLS, 10), -15);
        x.mind(1, 5, 1);
        check.due("tells of a barge shares nothing", x.act(0, TELLS, 10), 46);
        check.due("the next act is as ever", x.act(0, LIFTS, 10), 11);
        traceIs("the next", x, new int[] {10});
    }

    private static void wrapping() {
        check.part("promise 40, ints");
        BalloonTown x = held();
        check.due("MAX and 1", x.act(0, LIFTS, MAX), MIN);
        check.due("twice", x.act(0, SINKS, MAX), 0);
        x.mind(1, 0, 0);
        check.due("7 by -1", x.act(0, SHARES, 7), -7);
        check.due("the least by -1", x.act(0, SHARES, MIN), MIN);
        x.mind(1, 0, 3);
        check.due("-7 by 2 is cut", x.act(0, SHARES, -7), -3);
        x.mind(1, 4, 3);
        check.due("MAX and 2, by 2", x.act(0, SHARES, MAX), -1073741823 ^ 1);
        x.mind(1, 3, 3);
        check.due("patched", x.act(0, LIFTS, MAX), MIN);
    }

    private static void noAct() {
        check.part("promise 40, none");
        BalloonTown x = held();
        x.sheet(0, 0, 1);
        x.shelf(1, 1, 0);
        int[][] none = {{-1, 0}, {4, 0}, {0, -1}, {0, 4}, {1, 0}, {2, 0}, {MIN, 0}, {0, MAX}};
        for (int[] n : none) {
            check.due("an act", x.act(0, LIFTS, 5), 6);
            check.due("its trace", x.many(5), 1);
            check.due("no act", x.act(n[0], n[1], 5), 0);
            check.due("no trace", x.trace(0), -3);
            check.due("no trace", x.many(5), 0);
        }
    }

    private static void counting() {
        check.part("promise 42");
        BalloonTown x = held();
        x.becomes(0, 3, 5);
        x.becomes(1, 3, 5);
        x.hours(4);
        x.prove(0, 5);
        x.feed(0, 6);
        x.mind(1, 3, 3);
        x.act(0, SINKS, 0);
        int[] due = {2, 1, 4, 5, 6, 8};
        for (int what = 0; what < 6; what++) {
            check.due("many " + what, x.many(what), due[what]);
        }
        for (int what : new int[] {-1, 6, MIN, MAX}) {
            check.due("another what", x.many(what), -1);
        }
        for (int i : new int[] {-1, 8, MIN, MAX}) {
            check.due("no body " + i, x.trace(i), -3);
        }
    }

    /** Two BALLOONS, the second with A 3, held on SHELF 0. */
    private static BalloonTown held() {
        BalloonTown x = Check.townOf("balloon 3 in 0;balloon 3 in 0;");
        x.shelf(0, 0, 1);
        return x;
    }

    private static void traceIs(String call, BalloonTown x, int[] due) {
        check.due("bodies of " + call, x.many(5), due.length);
        for (int i = 0; i < due.length; i++) {
            check.due("body " + i + " of " + call, x.trace(i), due[i]);
        }
        check.due("no more of " + call, x.trace(due.length), -3);
    }
}
