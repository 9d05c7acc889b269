/** Promises 1, 4 to 16, 43 and 44: the town, its hours, and what is kept. */
public final class TownTest {
    private static final int COLUMN = 2, HEIGHT = 3, ROPE = 4, GAS = 5, SAND = 6, BREAD = 7, MOUTHS = 8;
    private static final int WEIGHT = 9, TARGET = 10, LEAKS = 11;
    private static final int MIN = Integer.MIN_VALUE, MAX = Integer.MAX_VALUE;
    private static final Check check = new Check();

    public static void main(String[] args) {
        newObject();
        warmths();
        gaps();
        balloons();
        partsAtFirst();
        targets();
        leaks();
        becoming();
        minding();
        pouring();
        giving();
        givingWhatThereIsRoomFor();
        touching();
        hanging();
        hours();
        climbing();
        clock();
        keeping();
        check.end();
    }

    private static void newObject() {
        check.part("promise 1");
        BalloonTown x = new BalloonTown();
        for (int what = 0; what <= 5; what++) {
            check.due("many " + what, x.many(what), 0);
        }
        for (int hour = 0; hour < 24; hour++) {
            check.due("warmth " + hour, x.warmth(hour), 100);
        }
        check.due("again", x.again(), -3);
        check.due("gap", x.gap(5), 3);
        check.due("seed", x.seed(5), 1);
        for (int i = 0; i < 4; i++) {
            check.due("taken " + i, x.taken(i, 0), -11);
            check.due("item " + i, x.item(i, 0, 0), -11);
        }
        check.due("row", x.row(0, 0), -9);
        check.due("trace", x.trace(0), -3);
        check.due("balloonOf", x.balloonOf(0, 0), -1);
    }

    private static void warmths() {
        check.part("promises 4, 5");
        BalloonTown x = new BalloonTown();
        check.due("warm", x.warm(23, 40), 100);
        check.due("what it was", x.warm(23, -20), 140);
        check.due("as it is", x.warmth(23), 80);
        check.due("another hour", x.warmth(22), 100);
        check.due("too warm", x.warm(23, 41), -1);
        check.due("too cold", x.warm(23, -21), -1);
        for (int hour : new int[] {-1, 24, MIN, MAX}) {
            check.due("no hour " + hour, x.warm(hour, 1), -1);
            check.due("no hour " + hour, x.warmth(hour), -1);
        }
        check.due("refused, so as it was", x.warmth(23), 80);
    }

    private static void gaps() {
        check.part("promise 6");
        BalloonTown x = new BalloonTown();
        check.due("least", x.gap(1), 3);
        check.due("most", x.gap(20), 1);
        for (int v : new int[] {0, 21, -1, MIN, MAX}) {
            check.due("gap " + v, x.gap(v), -1);
        }
        check.due("as it was", x.gap(2), 20);
    }

    private static void balloons() {
        check.part("promise 7");
        BalloonTown x = new BalloonTown();
        int[][] wrong = {{-1, 0, 0}, {6, 0, 0}, {0, -1, 0}, {0, 10, 0}, {0, 0, -1}, {0, 0, 6}, {MAX, 0, 0}, {0, MIN, 0}};
        for (int[] w : wrong) {
            check.due("wrong", x.balloon(w[0], w[1], w[2]), -1);
        }
        check.due("none of them came", x.many(0), 0);
        for (int kind = 0; kind < 6; kind++) {
            check.due("number", x.balloon(kind, 9 - kind, 5 - kind), kind);
        }
        check.due("FULL", x.balloon(0, 0, 0), -2);
        check.due("BAD ahead of FULL", x.balloon(6, 0, 0), -1);
        check.due("six", x.many(0), 6);
    }

    private static void partsAtFirst() {
        check.part("promise 8, at first");
        BalloonTown x = new BalloonTown();
        x.balloon(3, 7, 5);
        int[] due = {3, 7, 5, 0, 50, 100, 50, 20, 1, 78, 22, 1};
        for (int what = 0; what < due.length; what++) {
            check.due("what " + what, x.balloonOf(0, what), due[what]);
        }
        check.due("no what", x.balloonOf(0, 12), -1);
        check.due("no what", x.balloonOf(0, -1), -1);
        check.due("no balloon", x.balloonOf(1, 0), -1);
        check.due("no balloon", x.balloonOf(-1, 0), -1);
        check.due("no balloon", x.balloonOf(MAX, 0), -1);
    }

    /** LIFT 100 and what its warmth adds, WEIGHT 70 (sand 50, bread 20, no mouths, A 0). */
    private static void targets() {
        check.part("promise 8, TARGET");
        int[] kinds = {0, 1, 2, 3, 4, 5};
        int[] at10 = {40, 50, 40, 40, 55, 20};
        int[] atMinus20 = {10, 0, 10, 10, 0, 5};
        int[] atMinus7 = {23, 16, 23, 23, 21, 11};
        for (int kind : kinds) {
            BalloonTown x = oneOf(kind);
            x.becomes(0, ROPE, 99);
            x.becomes(0, MOUTHS, 0);
            check.due("at 0, kind " + kind, x.balloonOf(0, TARGET), kind == 4 ? 35 : kind == 5 ? 15 : 30);
            x.warm(0, 10);
            check.due("at 10, kind " + kind, x.balloonOf(0, TARGET), at10[kind]);
            x.warm(0, -20);
            check.due("at -20, kind " + kind, x.balloonOf(0, TARGET), atMinus20[kind]);
            x.warm(0, -7);
            check.due("at -7, kind " + kind, x.balloonOf(0, TARGET), atMinus7[kind]);
        }
        BalloonTown x = oneOf(0);
        check.due("WEIGHT", x.balloonOf(0, WEIGHT), 71);
        x.becomes(0, GAS, 999);
        check.due("not above ROPE", x.balloonOf(0, TARGET), 50);
        x.becomes(0, GAS, 70);
        check.due("not below 0", x.balloonOf(0, TARGET), 0);
        x.becomes(0, GAS, 99);
        x.warm(0, -1);
        check.due("99 by 100 below 0 is cut to 0", x.balloonOf(0, TARGET), 28);
        x.mind(0, 1, 0);
        check.due("198 by 100 below 0 is cut to 1", x.balloonOf(0, TARGET), 27);
        x.mind(0, 5, 0);
        x.becomes(0, GAS, 999);
        x.becomes(0, SAND, 800);
        x.warm(0, 0);
        check.due("half of 178 is above ROPE", x.balloonOf(0, TARGET), 50);
        x.becomes(0, SAND, 900);
        check.due("half of 78 isn't", x.balloonOf(0, TARGET), 39);
        x.becomes(0, SAND, 901);
        check.due("half of 77 is cut", x.balloonOf(0, TARGET), 38);
        x.clock(96);
        x.warm(0, 1);
        check.due("the HOUR of 96 is 0", x.balloonOf(0, TARGET), 43);
        x.clock(47);
        x.warm(23, 2);
        check.due("the HOUR of 47 is 23", x.balloonOf(0, TARGET), 48);
    }

    private static void leaks() {
        check.part("promise 8, LEAKS");
        int[] even = {0, 0, 2, 1, 0, 0}, odd = {0, 0, 2, 0, 0, 0};
        for (int kind = 0; kind < 6; kind++) {
            BalloonTown x = oneOf(kind);
            check.due("even, kind " + kind, x.balloonOf(0, LEAKS), even[kind]);
            x.clock(25);
            check.due("odd, kind " + kind, x.balloonOf(0, LEAKS), odd[kind]);
        }
    }

    private static void becoming() {
        check.part("promise 9");
        int[] least = {0, 0, 0, 0, 1, 0, 0, 0, 0}, most = {5, 9, 5, 99, 99, 999, 999, 99, 9};
        int[] first = {0, 0, 0, 0, 50, 100, 50, 20, 1};
        BalloonTown x = oneOf(0);
        for (int what = 2; what <= 8; what++) {
            check.due("most of " + what, x.becomes(0, what, most[what]), first[what]);
            check.due("more of " + what, x.becomes(0, what, most[what] + 1), -1);
            check.due("least of " + what, x.becomes(0, what, least[what]), most[what]);
            check.due("less of " + what, x.becomes(0, what, least[what] - 1), -1);
            check.due("stays " + what, x.balloonOf(0, what), least[what]);
        }
        for (int what : new int[] {0, 1, 9, 10, -1, MIN, MAX}) {
            check.due("no such part " + what, x.becomes(0, what, 1), -1);
        }
        check.due("no balloon", x.becomes(1, 3, 1), -1);
        check.due("no balloon", x.becomes(-1, 3, 1), -1);
    }

    private static void minding() {
        check.part("promise 10");
        BalloonTown x = oneOf(2);
        x.becomes(0, HEIGHT, 9);
        check.due("mind", x.mind(0, 4, 9), 2);
        check.due("KIND", x.balloonOf(0, 0), 4);
        check.due("A", x.balloonOf(0, 1), 9);
        check.due("HEIGHT stays", x.balloonOf(0, HEIGHT), 9);
        check.due("the same one again", x.mind(0, 4, 9), 4);
        int[][] wrong = {{0, 6, 0}, {0, -1, 0}, {0, 0, 10}, {0, 0, -1}, {1, 0, 0}, {-1, 0, 0}};
        for (int[] w : wrong) {
            check.due("wrong", x.mind(w[0], w[1], w[2]), -1);
        }
        check.due("still", x.balloonOf(0, 0), 4);
    }

    private static void pouring() {
        check.part("promise 11");
        BalloonTown x = oneOf(0);
        check.due("pour", x.pour(0, 20), 30);
        check.due("more than it has", x.pour(0, 31), -4);
        check.due("all", x.pour(0, 30), 0);
        check.due("none left", x.pour(0, 1), -4);
        check.due("0", x.pour(0, 0), -1);
        check.due("1000", x.pour(0, 1000), -1);
        check.due("BAD ahead of STATE", x.pour(0, MAX), -1);
        check.due("below 0", x.pour(0, MIN), -1);
        check.due("no balloon", x.pour(1, 1), -1);
        x.becomes(0, SAND, 999);
        check.due("most", x.pour(0, 999), 0);
    }

    /** 0, 1, 2 hang at 10, 30, 51 in column 0; 3 in column 1 at 10. */
    private static void giving() {
        check.part("promises 12, 24");
        BalloonTown x = Check.townOf("balloon 0 in 0;balloon 0 in 0;balloon 0 in 0;balloon 0 in 1;");
        x.becomes(0, HEIGHT, 10);
        x.becomes(1, HEIGHT, 30);
        x.becomes(2, HEIGHT, 51);
        x.becomes(3, HEIGHT, 10);
        check.due("20 apart", x.reached(0), 2);
        check.due("20 below, 21 above", x.reached(1), 1);
        check.due("21 apart", x.reached(2), 0);
        check.due("alone", x.reached(3), 0);
        check.due("no balloon", x.reached(4), -1);
        check.due("no balloon", x.reached(-1), -1);
        check.due("sand", x.give(0, 1, 0, 7), 57);
        check.due("what the giver has", x.balloonOf(0, SAND), 43);
        check.due("bread back", x.give(1, 0, 1, 20), 40);
        check.due("what the giver has", x.balloonOf(1, BREAD), 0);
        check.due("it has less", x.give(1, 0, 1, 1), -4);
        check.due("sand: it has less", x.give(0, 1, 0, 44), -4);
        check.due("21 apart", x.give(1, 2, 0, 1), -4);
        check.due("another column", x.give(0, 3, 0, 1), -4);
        int[][] wrong = {{0, 0, 0, 1}, {0, 4, 0, 1}, {4, 0, 0, 1}, {-1, 0, 0, 1}, {0, 1, 2, 1}, {0, 1, -1, 1},
            {0, 1, 0, 0}, {0, 1, 0, 100}, {0, 3, 0, 0}, {0, 1, 0, MIN}, {MAX, 1, 0, 1}};
        for (int[] w : wrong) {
            check.due("wrong", x.give(w[0], w[1], w[2], w[3]), -1);
        }
        x.becomes(2, HEIGHT, 20);
        check.due("one hangs between", x.give(0, 1, 0, 1), -4);
        check.due("the one between", x.reached(2), 3);
        x.becomes(2, HEIGHT, 10);
        check.due("of like ones the greater number hangs above", x.reached(1), 4);
        check.due("the lesser one reaches the like one alone", x.reached(0), 4);
        x.becomes(1, HEIGHT, 10);
        check.due("three alike", x.reached(1), 5);
        check.due("three alike, the lowest", x.reached(0), 2);
        check.due("on the ground one can give too", x.becomes(0, HEIGHT, 0), 10);
        check.due("from it", x.give(0, 1, 0, 1), 58);
    }

    private static void givingWhatThereIsRoomFor() {
        check.part("promise 12, room");
        BalloonTown x = Check.townOf("balloon 0 in 0;balloon 0 in 0;");
        x.becomes(1, SAND, 990);
        check.due("no room", x.give(0, 1, 0, 10), -4);
        check.due("room", x.give(0, 1, 0, 9), 999);
        x.becomes(1, BREAD, 95);
        check.due("no room", x.give(0, 1, 1, 5), -4);
        check.due("room", x.give(0, 1, 1, 4), 99);
        check.due("the giver", x.balloonOf(0, BREAD), 16);
        x.becomes(0, SAND, 99);
        x.becomes(1, SAND, 0);
        check.due("the most at once", x.give(0, 1, 0, 99), 99);
    }

    private static void touching() {
        check.part("promises 13, 42");
        BalloonTown x = Check.townOf("silk 0 in 0;silk 0 in 0;silk 0 in 0;silk 0 in 1;gap 4;");
        x.becomes(0, HEIGHT, 10);
        x.becomes(1, HEIGHT, 13);
        x.becomes(2, HEIGHT, 14);
        x.becomes(3, HEIGHT, 10);
        check.due("3 apart touch, 4 don't", x.touches(0), 2);
        check.due("both", x.touches(1), 5);
        check.due("one", x.touches(2), 2);
        check.due("another column", x.touches(3), 0);
        check.due("pairs", x.many(1), 2);
        x.gap(5);
        check.due("pairs", x.many(1), 3);
        x.becomes(0, HEIGHT, 0);
        x.becomes(1, HEIGHT, 1);
        check.due("one on the ground", x.touches(1), 0);
        check.due("from the ground", x.touches(0), 0);
        x.becomes(1, HEIGHT, 0);
        check.due("both on the ground", x.touches(0), 0);
        x.gap(1);
        x.becomes(0, HEIGHT, 1);
        x.becomes(1, HEIGHT, 1);
        check.due("alike", x.touches(0), 2);
        check.due("no balloon", x.touches(4), -1);
        check.due("no balloon", x.touches(MIN), -1);
    }

    private static void hanging() {
        check.part("promise 14");
        BalloonTown x = Check.townOf("silk 0 in 0;silk 0 in 0;silk 0 in 1;silk 0 in 0;silk 0 in 0;");
        x.becomes(0, HEIGHT, 40);
        x.becomes(1, HEIGHT, 99);
        x.becomes(3, HEIGHT, 40);
        int[] above = {3, -3, -3, 1, 0}, below = {4, 3, -3, 0, -3};
        for (int i = 0; i < 5; i++) {
            check.due("above " + i, x.above(i, 0), above[i]);
            check.due("below " + i, x.above(i, 1), below[i]);
        }
        check.due("no what", x.above(0, 2), -1);
        check.due("no what", x.above(0, -1), -1);
        check.due("no balloon", x.above(5, 0), -1);
        check.due("no balloon", x.above(-1, 0), -1);
    }

    private static void hours() {
        check.part("promise 15");
        BalloonTown x = Check.townOf("leaky 0 in 0 gas 9 bread 7 mouths 3;patched 0 in 0;");
        check.due("none", x.hours(0), 0);
        check.due("1", x.hours(1), 1);
        check.due("GAS", x.balloonOf(0, GAS), 7);
        check.due("BREAD", x.balloonOf(0, BREAD), 4);
        check.due("patched in an even hour", x.balloonOf(1, GAS), 99);
        check.due("2", x.hours(1), 2);
        check.due("patched in an odd hour", x.balloonOf(1, GAS), 99);
        check.due("3", x.hours(1), 3);
        check.due("who has less eats all", x.balloonOf(0, BREAD), 0);
        check.due("MOUTHS stay", x.balloonOf(0, MOUTHS), 3);
        check.due("4", x.hours(2), 5);
        check.due("GAS 0 at least", x.balloonOf(0, GAS), 0);
        for (int n : new int[] {-1, 49, MIN, MAX}) {
            check.due("wrong", x.hours(n), -1);
        }
        check.due("most", x.hours(48), 53);
        check.due("as far as there are such", x.hours(48), 96);
        check.due("patched, 96 hours", x.balloonOf(1, GAS), 52);
        check.due("no more", x.hours(1), 96);
        check.due("no more leaks", x.balloonOf(1, GAS), 52);
    }

    /** The WARMTH is that of the HOUR that goes; the TARGET by GAS and BREAD as they are ahead of it. */
    private static void climbing() {
        check.part("promise 15, HEIGHT");
        BalloonTown x = Check.townOf("balloon 0 in 0 rope 99;leaky 0 in 1 gas 80;warm 1 40;cold 2 20;cold 3 20;");
        x.hours(1);
        check.due("10 at most of 29", x.balloonOf(0, HEIGHT), 10);
        check.due("9 of a leaky one", x.balloonOf(1, HEIGHT), 9);
        x.hours(1);
        check.due("towards 70", x.balloonOf(0, HEIGHT), 20);
        check.due("towards 78 + 31 - 70", x.balloonOf(1, HEIGHT), 19);
        x.hours(1);
        check.due("down to 80 - 69", x.balloonOf(0, HEIGHT), 11);
        check.due("10 at most down", x.balloonOf(1, HEIGHT), 9);
        x.hours(1);
        check.due("up to 80 - 68", x.balloonOf(0, HEIGHT), 12);
        check.due("to the ground", x.balloonOf(1, HEIGHT), 0);
        x.becomes(0, HEIGHT, 40);
        x.becomes(0, ROPE, 5);
        x.hours(1);
        check.due("a shorter rope pulls it down", x.balloonOf(0, HEIGHT), 30);
    }

    private static void clock() {
        check.part("promise 16");
        BalloonTown x = oneOf(2);
        check.due("most", x.clock(96), 0);
        check.due("NOW", x.many(2), 96);
        check.due("too much", x.clock(97), -1);
        check.due("below 0", x.clock(-1), -1);
        check.due("wrong", x.clock(MAX), -1);
        check.due("back", x.clock(0), 96);
        check.due("nothing leaks by it", x.balloonOf(0, GAS), 100);
    }

    private static void keeping() {
        check.part("promises 43, 44");
        BalloonTown x = Check.townOf("silk 1 in 2;gap 7;warm 3 9;");
        x.hours(5);
        x.seed(77);
        x.sheet(0, 2, 3);
        x.shelf(0, 0, 0);
        x.act(0, 0, 1);
        x.prove(0, 4);
        check.due("keep", x.keep(), 1);
        x.balloon(0, 0, 0);
        x.becomes(0, COLUMN, 3);
        x.mind(0, 2, 2);
        x.warm(3, 8);
        x.gap(8);
        x.seed(78);
        x.hours(2);
        x.prove(0, 6);
        x.feed(0, 3);
        x.sheet(1, 1, 4);
        x.shelf(1, 1, 1);
        x.act(0, 1, 1);
        check.due("again", x.again(), 5);
        check.due("balloons", x.many(0), 1);
        check.due("KIND", x.balloonOf(0, 0), 1);
        check.due("A", x.balloonOf(0, 1), 1);
        check.due("COLUMN", x.balloonOf(0, COLUMN), 2);
        check.due("BREAD", x.balloonOf(0, BREAD), 15);
        check.due("WARMTH", x.warmth(3), 109);
        check.due("z", x.seed(79), 77);
        check.due("GAP", x.gap(9), 7);
        check.due("ROWS stay", x.many(3), 6);
        check.due("THE TAPE stays", x.many(4), 3);
        check.due("THE TRACE stays", x.trace(0), 11);
        check.due("a SHELF stays", x.taken(1, 11), 4);
        check.due("again, as often as one likes", x.again(), 5);
        check.due("which stays", x.gap(9), 7);
        x.clock(9);
        x.keep();
        x.clock(10);
        check.due("the latest", x.again(), 9);
        x.feed(0, 1);
        x.town();
        check.due("a town read leaves it kept", x.again(), 9);
    }

    private static BalloonTown oneOf(int kind) {
        BalloonTown x = new BalloonTown();
        x.balloon(kind, 0, 0);
        return x;
    }
}
