/**
 * Promises 17 to 29: what will be. With MOUTHS 0 a BALLOON's TARGET in WARMTH 0 is
 * GAS less SAND less BREAD less A in every HOUR, so its way can be told by hand.
 */
public final class WillBeTest {
    private static final int HEIGHT = 3, ROPE = 4, GAS = 5, SAND = 6, BREAD = 7, MOUTHS = 8;
    private static final int MIN = Integer.MIN_VALUE, MAX = Integer.MAX_VALUE;
    private static final Check check = new Check();

    public static void main(String[] args) {
        heights();
        firstTouch();
        firstOfSeveral();
        clear();
        leastSand();
        ropes();
        columns();
        bread();
        help();
        helpAsItCanBeGiven();
        helpOfSeveral();
        helpBehindTheLastHour();
        cold();
        coldFromTheNextHourOn();
        highest();
        drawing();
        inTheWarmthThatIs();
        sixInOneColumn();
        check.end();
    }

    /** 0 rises by 10, 20, 30; 1 sinks from 45 by 35, 25, 15 to 10. */
    private static BalloonTown crossing() {
        BalloonTown x = Check.townOf("balloon 0 in 0 mouths 0;balloon 0 in 0 sand 70 mouths 0;");
        x.becomes(1, HEIGHT, 45);
        return x;
    }

    /** 0 goes from 20 by 30 to 34, and 1 stays at 35. */
    private static BalloonTown nearing() {
        BalloonTown x = Check.townOf("balloon 0 in 0 sand 46 mouths 0;balloon 0 in 0 sand 45 mouths 0;");
        x.becomes(0, HEIGHT, 20);
        x.becomes(1, HEIGHT, 35);
        return x;
    }

    private static void heights() {
        check.part("promise 17");
        BalloonTown x = crossing();
        int[] rising = {0, 10, 20, 30, 30}, sinking = {45, 35, 25, 15, 10};
        for (int n = 0; n < 5; n++) {
            check.due("rising " + n, x.height(0, n), rising[n]);
            check.due("sinking " + n, x.height(1, n), sinking[n]);
        }
        check.due("the most", x.height(1, 48), 10);
        check.due("nothing changes", x.balloonOf(1, HEIGHT), 45);
        check.due("nor NOW", x.many(2), 0);
        for (int n : new int[] {-1, 49, MIN, MAX}) {
            check.due("wrong n", x.height(0, n), -1);
        }
        check.due("no balloon", x.height(2, 1), -1);
        check.due("no balloon", x.height(-1, 1), -1);
        x.clock(94);
        check.due("as far as there are such", x.height(0, 48), 20);
        x.clock(23);
        x.warm(23, -20);
        check.due("the day goes round", x.height(0, 1), 10);
        x.becomes(0, HEIGHT, 30);
        check.due("HOUR 23 is cold", x.height(0, 1), 20);
        check.due("HOUR 0 isn't", x.height(0, 2), 30);
    }

    private static void firstTouch() {
        check.part("promise 18");
        BalloonTown x = crossing();
        x.gap(5);
        check.due("5 apart behind 2 HOURS", x.first(0), -3);
        check.due("which", x.first(1), -3);
        x.gap(6);
        check.due("when", x.first(0), 2);
        check.due("which", x.first(1), 1);
        check.due("wrong what", x.first(2), -1);
        check.due("wrong what", x.first(-1), -1);
        x.clock(95);
        check.due("there is but one HOUR", x.first(0), -3);
        x.becomes(0, HEIGHT, 40);
        check.due("now", x.first(0), 0);
        x.clock(96);
        check.due("now, at the end", x.first(0), 0);
        BalloonTown y = Check.townOf("balloon 0 in 0 bread 48 mouths 1;balloon 0 in 0 sand 0 bread 0 mouths 0;");
        y.becomes(1, HEIGHT, 50);
        check.due("1 more behind each HOUR, as 1 of BREAD is less", y.height(0, 48), 48);
        check.due("behind 48", y.first(0), 48);
        y.becomes(0, BREAD, 49);
        check.due("not behind 48", y.first(0), -3);
    }

    private static void firstOfSeveral() {
        check.part("promise 18, which");
        BalloonTown x = Check.townOf("silk 0 in 5;silk 0 in 4;silk 0 in 3;silk 0 in 4;silk 0 in 3;silk 0 in 3;");
        check.due("when", x.first(0), 1);
        check.due("13 is less than 24", x.first(1), 13);
        x.becomes(1, 2, 0);
        check.due("24 is less than 25", x.first(1), 24);
        x.becomes(2, 2, 1);
        check.due("the last pair", x.first(1), 45);
    }

    private static void clear() {
        check.part("promise 19");
        BalloonTown x = crossing();
        x.gap(6);
        check.due("1", x.clear(0, 1), 1);
        check.due("2", x.clear(0, 2), 0);
        check.due("any of them, not the last", x.clear(1, 48), 0);
        x.clock(95);
        check.due("as far as there are such", x.clear(0, 48), 1);
        x.becomes(0, HEIGHT, 45);
        check.due("HOUR 0 counts", x.clear(0, 0), 0);
        x.becomes(1, 2, 1);
        check.due("another COLUMN", x.clear(0, 0), 1);
        for (int n : new int[] {-1, 49, MIN, MAX}) {
            check.due("wrong n", x.clear(0, n), -1);
        }
        check.due("no balloon", x.clear(2, 0), -1);
    }

    private static void leastSand() {
        check.part("promise 20");
        BalloonTown x = nearing();
        check.due("30 is far enough", x.leastSand(0, 1), 0);
        check.due("38 is, behind 2", x.leastSand(0, 2), 4);
        check.due("the most HOURS", x.leastSand(0, 24), 4);
        check.due("nothing is poured", x.balloonOf(0, SAND), 46);
        x.becomes(0, ROPE, 38);
        check.due("ROPE 38", x.leastSand(0, 24), 4);
        x.becomes(0, ROPE, 37);
        check.due("ROPE 37", x.leastSand(0, 24), -3);
        x.becomes(0, ROPE, 50);
        x.becomes(0, GAS, 58);
        x.becomes(0, SAND, 4);
        check.due("all it has", x.leastSand(0, 24), 4);
        x.becomes(0, GAS, 57);
        x.becomes(0, SAND, 3);
        check.due("it has too little", x.leastSand(0, 24), -3);
        x.becomes(0, HEIGHT, 33);
        check.due("it touches now", x.leastSand(0, 0), -3);
        check.due("the other one stays where it is", x.leastSand(1, 0), -3);
        for (int n : new int[] {-1, 25, MIN, MAX}) {
            check.due("wrong n", x.leastSand(0, n), -1);
        }
        check.due("no balloon", x.leastSand(2, 0), -1);
        x.becomes(0, SAND, 999);
        x.becomes(0, GAS, 999);
        x.becomes(0, HEIGHT, 0);
        x.becomes(0, ROPE, 39);
        x.becomes(1, HEIGHT, 12);
        x.becomes(1, GAS, 82);
        x.becomes(1, SAND, 45);
        x.becomes(1, BREAD, 25);
        check.due("on the ground nobody touches", x.leastSand(0, 24), 0);
    }

    private static void ropes() {
        check.part("promise 21");
        BalloonTown x = nearing();
        check.due("any", x.ropeFor(0, 1), 99);
        check.due("32", x.ropeFor(0, 2), 32);
        check.due("the most HOURS", x.ropeFor(0, 24), 32);
        check.due("nothing changes", x.balloonOf(0, ROPE), 50);
        x.becomes(0, GAS, 999);
        check.due("by 30, 40, 50 above it", x.ropeFor(0, 24), 99);
        x.becomes(0, HEIGHT, 25);
        check.due("35 on the way up", x.ropeFor(0, 24), 32);
        x.becomes(0, HEIGHT, 34);
        check.due("it touches now", x.ropeFor(0, 0), -3);
        for (int n : new int[] {-1, 25, MIN, MAX}) {
            check.due("wrong n", x.ropeFor(0, n), -1);
        }
        check.due("no balloon", x.ropeFor(-1, 0), -1);
        BalloonTown y = Check.townOf("balloon 0 in 0 gas 999;balloon 0 in 0 gas 999 rope 4;gap 3;");
        y.becomes(1, HEIGHT, 4);
        check.due("1 is 3 away", y.ropeFor(0, 0), 99);
        y.becomes(0, HEIGHT, 11);
        y.becomes(0, GAS, 75);
        y.becomes(0, MOUTHS, 0);
        check.due("only the shortest rope will do", y.ropeFor(0, 24), 1);
    }

    private static void columns() {
        check.part("promise 22");
        BalloonTown x = nearing();
        check.due("now", x.columnFor(0, 0), 0);
        check.due("its own", x.columnFor(0, 1), 0);
        check.due("the next", x.columnFor(0, 2), 1);
        x.balloon(0, 0, 1);
        check.due("one on the ground comes up to 29", x.columnFor(0, 2), 1);
        x.becomes(2, SAND, 46);
        x.becomes(2, MOUTHS, 0);
        x.becomes(2, HEIGHT, 20);
        check.due("1 is as near", x.columnFor(0, 2), 2);
        check.due("nothing changes", x.balloonOf(0, 2), 0);
        x.becomes(0, 2, 5);
        check.due("the first, not its own", x.columnFor(0, 1), 0);
        check.due("behind 2", x.columnFor(0, 2), 2);
        for (int n : new int[] {-1, 25, MIN, MAX}) {
            check.due("wrong n", x.columnFor(0, n), -1);
        }
        check.due("no balloon", x.columnFor(3, 0), -1);
    }

    private static void bread() {
        check.part("promise 23");
        BalloonTown x = new BalloonTown();
        x.balloon(0, 0, 0);
        check.due("20 for 1", x.lasts(0), 20);
        x.becomes(0, MOUTHS, 3);
        check.due("20 for 3", x.lasts(0), 7);
        x.becomes(0, BREAD, 21);
        check.due("21 for 3", x.lasts(0), 7);
        x.becomes(0, BREAD, 2);
        check.due("2 for 3", x.lasts(0), 1);
        x.becomes(0, BREAD, 0);
        check.due("none", x.lasts(0), 0);
        x.becomes(0, MOUTHS, 0);
        check.due("none for nobody", x.lasts(0), 0);
        x.becomes(0, BREAD, 1);
        check.due("some for nobody", x.lasts(0), -3);
        x.becomes(0, BREAD, 99);
        x.becomes(0, MOUTHS, 1);
        x.clock(96);
        check.due("beyond the last HOUR too", x.lasts(0), 99);
        check.due("no balloon", x.lasts(1), -1);
        check.due("no balloon", x.lasts(-1), -1);
    }

    /** 0 at 20 for 30, 1 at 25 for 34: by 01 to 40 and 24, by 10 to 20 and 44. */
    private static void help() {
        check.part("promise 25");
        BalloonTown x = Check.townOf("balloon 0 in 0 mouths 0;balloon 0 in 0 sand 46 mouths 0;");
        x.becomes(0, HEIGHT, 20);
        x.becomes(1, HEIGHT, 25);
        check.due("both do; the least", x.help(3), 1);
        x.gap(7);
        check.due("by 01 they touch behind 1, 30 and 24", x.help(3), 10);
        x.gap(20);
        check.due("01: 6, 16, 16; 10: 15, 24, 24", x.help(3), 10);
        check.due("they touch now and behind 1 either way", x.help(1), 1);
        check.due("nothing is given", x.balloonOf(0, SAND), 50);
        for (int n : new int[] {0, -1, 25, MIN, MAX}) {
            check.due("wrong n", x.help(n), -1);
        }
        check.due("the most", x.help(24), 10);
        x.clock(96);
        check.due("no HOURS, no pairs", x.help(24), 1);
    }

    private static void helpAsItCanBeGiven() {
        check.part("promise 25, as it can be GIVEN");
        BalloonTown x = Check.townOf("balloon 0 in 0 mouths 0;balloon 0 in 0 mouths 0;");
        check.due("on the ground too", x.help(1), 1);
        x.becomes(0, SAND, 9);
        check.due("0 has too little", x.help(1), 10);
        x.becomes(1, SAND, 9);
        check.due("both have", x.help(1), -3);
        x.becomes(1, SAND, 10);
        check.due("10 are enough", x.help(1), 10);
        x.becomes(0, SAND, 990);
        x.becomes(1, SAND, 50);
        check.due("no room in 0", x.help(1), 1);
        x.becomes(0, SAND, 989);
        x.becomes(1, SAND, 990);
        check.due("no room in 1", x.help(1), 10);
        x.becomes(1, HEIGHT, 21);
        check.due("too far", x.help(1), -3);
        x.becomes(1, HEIGHT, 20);
        check.due("not too far", x.help(1), 10);
        x.becomes(1, 2, 1);
        check.due("another COLUMN", x.help(1), -3);
    }

    /** 0 and 1 stay 20 apart and so clear, but for the gift 10; 2 and 3 touch, but for the gift 23. */
    private static void helpOfSeveral() {
        check.part("promise 25, of several");
        BalloonTown x = Check.townOf("balloon 0 in 0 sand 40 mouths 0;balloon 0 in 0 sand 60 mouths 0;"
            + "balloon 0 in 1 sand 40 mouths 0;balloon 0 in 1 mouths 0;gap 20;");
        int[] heights = {40, 20, 40, 30};
        for (int i = 0; i < 4; i++) {
            x.becomes(i, HEIGHT, heights[i]);
        }
        check.due("each gift is tried from all as it is", x.help(5), 23);
        x.becomes(2, SAND, 9);
        check.due("without 23 they touch by any gift", x.help(5), 1);
    }

    /** 0 stays at 14 on its ROPE; 1 goes from 34 by the gift 01 to 24 and 14, by 10 it stays. */
    private static void helpBehindTheLastHour() {
        check.part("promise 25, the last HOUR");
        BalloonTown x = Check.townOf("balloon 0 in 0 gas 999 rope 14 mouths 0;balloon 0 in 0 sand 56 mouths 0;");
        x.becomes(0, HEIGHT, 14);
        x.becomes(1, HEIGHT, 34);
        check.due("behind 1 HOUR 1 is at 24 or 34", x.help(1), 1);
        check.due("behind 2 HOURS it is at 14 or 34", x.help(2), 10);
    }

    private static void inTheWarmthThatIs() {
        check.part("promises 17 to 33, WARMTH");
        BalloonTown x = nearing();
        for (int hour = 0; hour < 24; hour++) {
            x.warm(hour, 10);
        }
        x.becomes(0, GAS, 90);
        x.becomes(1, GAS, 999);
        x.becomes(1, ROPE, 34);
        check.due("99 - 66", x.height(0, 9), 33);
        check.due("leastSand: 37 beside 34", x.leastSand(0, 24), 4);
        check.due("ropeFor: 31 beside 34", x.ropeFor(0, 24), 31);
        x.becomes(1, ROPE, 37);
        x.becomes(0, SAND, 44);
        check.due("columnFor: 35 beside 37", x.columnFor(0, 24), 1);
        x.becomes(0, SAND, 45);
        check.due("columnFor: 34 beside 37", x.columnFor(0, 24), 0);
        x.mind(0, 1, 0);
        x.becomes(0, SAND, 50);
        check.due("highest: 38 of a silk one, and 37", x.highest(24), 0);
        x.becomes(0, SAND, 51);
        check.due("highest: 37 and 37", x.highest(24), 0);
        x.becomes(0, SAND, 52);
        check.due("highest: 36 and 37", x.highest(24), 1);
        x.prove(0, 9);
        check.due("prove", x.row(8, 0), 36);
        check.due("judge", x.judge(0), 0);
        x.warm(8, 9);
        check.due("judge: HOUR 8 is colder by 1", x.judge(0), 9);
    }

    private static void sixInOneColumn() {
        check.part("six");
        BalloonTown x = Check.townOf("silk 0 in 5;silk 0 in 5;silk 0 in 5;silk 0 in 5;silk 0 in 5;silk 0 in 5;");
        check.due("first", x.first(0), 1);
        check.due("which", x.first(1), 1);
        check.due("help", x.help(24), 1);
        check.due("40 keeps all on the ground", x.cold(), 40);
        check.due("highest", x.highest(1), 0);
        check.due("columnFor", x.columnFor(5, 24), 0);
        check.due("prove", x.prove(5, 1), 1);
        check.due("with five", x.row(0, 2), 5);
        x.hours(1);
        check.due("pairs", x.many(1), 15);
        for (int i = 0; i < 6; i++) {
            check.due("touches " + i, x.touches(i), 63 - (1 << i));
            check.due("above " + i, x.above(i, 0), i == 5 ? -3 : i + 1);
            check.due("below " + i, x.above(i, 1), i == 0 ? -3 : i - 1);
        }
        check.due("reached", x.reached(5), 16);
        check.due("leastSand", x.leastSand(5, 0), -3);
    }

    /** 0 hangs at 10 on its ROPE; 1, a silk one, sinks from its HEIGHT by 2 for 1 of cold. */
    private static void cold() {
        check.part("promise 26");
        BalloonTown x = Check.townOf("balloon 0 in 0 gas 999 rope 10 mouths 0;silk 0 in 0 mouths 0;");
        x.becomes(0, HEIGHT, 10);
        x.becomes(1, HEIGHT, 30);
        check.due("8 lets it sink to 14, 9 to 12, more through 10", x.cold(), 8);
        for (int hour = 0; hour < 24; hour++) {
            x.warm(hour, -7);
        }
        x.becomes(1, HEIGHT, 20);
        check.due("7 are used up", x.cold(), 1);
        for (int hour = 0; hour < 24; hour++) {
            x.warm(hour, -8);
        }
        check.due("8 are", x.cold(), -3);
        check.due("nothing changes", x.warmth(0), 92);
        for (int hour = 0; hour < 24; hour++) {
            x.warm(hour, 0);
        }
        x.becomes(1, SAND, 46);
        x.becomes(1, HEIGHT, 34);
        check.due("by 24, 14, 4, 0 it passes", x.cold(), 40);
        x.becomes(1, 2, 1);
        x.becomes(1, HEIGHT, 10);
        check.due("another COLUMN", x.cold(), 40);
    }

    private static void coldFromTheNextHourOn() {
        check.part("promise 26, HOURS");
        BalloonTown x = Check.townOf("balloon 0 in 0 gas 999 rope 10;balloon 0 in 0 gas 999;");
        x.becomes(0, HEIGHT, 10);
        x.becomes(1, HEIGHT, 10);
        check.due("now doesn't count", x.cold(), 40);
        x.becomes(1, ROPE, 12);
        check.due("not even by 1", x.cold(), -3);
        x.clock(96);
        check.due("no HOURS", x.cold(), 40);
        check.due("no balloons", new BalloonTown().cold(), 40);
        BalloonTown y = Check.townOf("silk 9 in 0 gas 800 sand 0 bread 99 mouths 4;silk 0 in 0 gas 999 rope 99;gap 1;");
        y.mind(0, 0, 0);
        y.mind(1, 0, 0);
        y.becomes(1, SAND, 0);
        y.becomes(1, HEIGHT, 99);
        y.becomes(0, ROPE, 50);
        y.becomes(0, HEIGHT, 50);
        check.due("apart", y.cold(), 40);
    }

    private static void highest() {
        check.part("promise 27");
        BalloonTown x = crossing();
        check.due("now", x.highest(0), 1);
        check.due("behind 2", x.highest(2), 1);
        check.due("behind 3", x.highest(3), 0);
        check.due("the most", x.highest(48), 0);
        x.clock(95);
        check.due("as far as there are such", x.highest(48), 1);
        x.becomes(0, HEIGHT, 45);
        check.due("of several the least", x.highest(0), 0);
        for (int n : new int[] {-1, 49, MIN, MAX}) {
            check.due("wrong n", x.highest(n), -1);
        }
        check.due("none", new BalloonTown().highest(0), -3);
        check.due("BAD ahead of NONE", new BalloonTown().highest(49), -1);
    }

    private static void drawing() {
        check.part("promises 28, 29");
        BalloonTown x = new BalloonTown();
        check.due("16838 modulo 61 is 2", x.draw(23), 82);
        check.due("the WARMTH", x.warmth(23), 82);
        check.due("z", x.seed(2), 1103527590);
        check.due("33676 modulo 61 is 4, though z is below 0", x.draw(0), 84);
        check.due("no hour", x.draw(24), -1);
        check.due("no hour", x.draw(-1), -1);
        check.due("z stays by these", x.seed(MIN), -2087924461);
        check.due("any int", x.seed(MAX), MIN);
    }
}
