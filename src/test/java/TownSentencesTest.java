/**
 * Promises 1 and 4 to 16: a test of its own for each sentence of the document that
 * names an edge. A new balloon in WARMTH 0 weighs 71, so that its TARGET is 29.
 */
public final class TownSentencesTest {
    private static final Sentences the = new Sentences();

    public static void main(String[] args) {
        newObject();
        warm();
        warmth();
        gap();
        balloon();
        balloonOf();
        targets();
        leaks();
        becomes();
        mind();
        pour();
        give();
        giveToWhom();
        touches();
        above();
        hours();
        heightsByHours();
        clock();
        the.end(4, 16);
    }

    private static void newObject() {
        the.sentence(1, "No BALLOONS", "many 0 = 0", "many 1 = 0", "balloonOf -1..6 0 = -1", "touches 0 = -1",
            "highest 0 = -3", "first 0 = -3", "help 1 = -3");
        the.sentence(1, "no WARMTH", "warmth 0..23 = 100");
        the.sentence(1, "nothing is kept", "again = -3", "balloon 0 0 0 = 0", "again = -3", "many 0 = 1");
        the.sentence(1, "GAP, 3 at first", "gap 20 = 3");
        the.sentence(1, "NOW, 0 at first", "many 2 = 0", "clock 5 = 0");
        the.sentence(1, "z, 1 at first", "seed 9 = 1");
        the.sentence(1, "THE TAPE takes bytes (none at first)", "many 4 = 0", "town = 0", "many 0 = 0");
        the.sentence(1, "ROWS (none at first)", "many 3 = 0", "row -1..20 0 = -9", "alterRow 0 0 1 = -9",
            "balloon 0 0 0 = 0", "judge 0 = 0");
        the.sentence(1, "THE TRACE (none at first)", "many 5 = 0", "trace -1..30 = -3");
        the.sentence(1, "SHEETS missing (at first)", "item 0..3 0..3 0 = -11", "put 0..3 0 1 = -11",
            "warms 0..3 0 0 0 = -11");
        the.sentence(1, "SHELVES hold nothing (at first)", "taken 0..3 0 = -11", "taken 0..3 13 = -11",
            "act 0..3 0 5 = 0");
        BalloonTown used = Check.townOf("silk 1 in 1;warm 1 1;gap 9;");
        used.hours(3);
        used.keep();
        the.sentence(1, "A new object (beside another one)", "many 0 = 0", "warmth 1 = 100", "gap 3 = 3", "many 2 = 0",
            "again = -3");
    }

    private static void warm() {
        the.sentence(4, "HOURS 0 to 23", "warm 0 1 = 100", "warm 23 2 = 100", "warm -1 3 = -1", "warm 24 3 = -1",
            "warm MIN 3 = -1", "warm MAX 3 = -1", "warmth 0 = 101", "warmth 23 = 102");
        the.sentence(4, "WARMTH (-20 ..)", "warm 5 -20 = 100", "warm 5 -21 = -1", "warm 5 MIN = -1", "warmth 5 = 80");
        the.sentence(4, "WARMTH (.. to 40)", "warm 5 40 = 100", "warm 5 41 = -1", "warm 5 MAX = -1", "warmth 5 = 140");
        the.sentence(4, "what it was, and 100 more", "warm 5 -20 = 100", "warm 5 40 = 80", "warm 5 0 = 140",
            "warm 5 0 = 100");
        the.sentence(4, "WARMTH of an HOUR becomes v (of no other)", "warm 7 9 = 100", "warmth 0..6 = 100",
            "warmth 7 = 109", "warmth 8..23 = 100");
    }

    private static void warmth() {
        the.sentence(5, "HOURS 0 to 23", "warmth 0 = 100", "warmth 23 = 100", "warmth -1 = -1", "warmth 24 = -1",
            "warmth MIN = -1", "warmth MAX = -1");
        the.sentence(5, "WARMTH of an HOUR, and 100 more", "tell cold 0 20;warm 23 40; = 0", "warmth 0 = 80",
            "warmth 23 = 140", "clock 96 = 0", "warmth 23 = 140");
    }

    private static void gap() {
        the.sentence(6, "GAP (1 ..)", "gap 1 = 3", "gap 0 = -1", "gap -1 = -1", "gap MIN = -1", "gap 2 = 1");
        the.sentence(6, "GAP (.. to 20)", "gap 20 = 3", "gap 21 = -1", "gap MAX = -1", "gap 2 = 20");
    }

    private static void balloon() {
        the.sentence(7, "KIND: 0 to 5", "balloon -1 0 0 = -1", "balloon 6 0 0 = -1", "balloon MIN 0 0 = -1",
            "balloon MAX 0 0 = -1", "many 0 = 0", "balloon 0 0 0 = 0", "balloon 5 0 0 = 1", "balloonOf 0 0 = 0",
            "balloonOf 1 0 = 5");
        the.sentence(7, "A (0 to 9)", "balloon 0 -1 0 = -1", "balloon 0 10 0 = -1", "balloon 0 MIN 0 = -1",
            "balloon 0 MAX 0 = -1", "many 0 = 0", "balloon 0 0 0 = 0", "balloon 0 9 0 = 1", "balloonOf 0 1 = 0",
            "balloonOf 1 1 = 9");
        the.sentence(7, "a COLUMN (0 to 5)", "balloon 0 0 -1 = -1", "balloon 0 0 6 = -1", "balloon 0 0 MIN = -1",
            "balloon 0 0 MAX = -1", "many 0 = 0", "balloon 0 0 0 = 0", "balloon 0 0 5 = 1", "balloonOf 0 2 = 0",
            "balloonOf 1 2 = 5");
        the.sentence(7, "BALLOONS, 6 at most; FULL", "balloon 0 0 0 = 0", "balloon 0 0 0 = 1", "balloon 0 0 0 = 2",
            "balloon 0 0 0 = 3", "balloon 0 0 0 = 4", "balloon 0 0 0 = 5", "many 0 = 6", "balloon 0 0 0 = -2",
            "many 0 = 6");
        the.sentence(7, "of several the first named: BAD, FULL", "tell silk 0 in 0;silk 0 in 0;silk 0 in 0;"
            + "silk 0 in 0;silk 0 in 0;silk 0 in 0; = 6", "balloon 6 0 0 = -1", "balloon 0 10 0 = -1",
            "balloon 0 0 6 = -1", "balloon 0 0 5 = -2");
        the.sentence(7, "numbered as they come (behind those told in a TEXT)", "tell silk 0 in 0;silk 0 in 0; = 2",
            "balloon 3 4 5 = 2", "balloonOf 2 0 = 3", "balloonOf 2 1 = 4", "balloonOf 2 2 = 5");
        the.sentence(7, "(0 at first), (50 at first), .. (also where another one was before)", "balloon 1 1 1 = 0",
            "becomes 0 3 1 = 0", "becomes 0 4 2 = 50", "becomes 0 5 3 = 100", "becomes 0 6 4 = 50",
            "becomes 0 7 5 = 20", "becomes 0 8 6 = 1", "town = 0", "balloon 2 2 2 = 0", "balloonOf 0 0..2 = 2",
            "balloonOf 0 3 = 0", "balloonOf 0 4 = 50", "balloonOf 0 5 = 100", "balloonOf 0 6 = 50",
            "balloonOf 0 7 = 20", "balloonOf 0 8 = 1");
    }

    private static void balloonOf() {
        the.sentence(8, "what = 0 .. to 11", "balloon 4 7 3 = 0", "balloonOf 0 0 = 4", "balloonOf 0 11 = 0",
            "balloonOf 0 -1 = -1", "balloonOf 0 12 = -1", "balloonOf 0 MIN = -1", "balloonOf 0 MAX = -1");
        the.sentence(8, "BAD: there is no such BALLOON", "balloonOf 0 0 = -1", "balloon 0 0 0 = 0", "balloonOf 0 0 = 0",
            "balloonOf 1 0..12 = -1", "balloonOf -1 0 = -1", "balloonOf 6 0 = -1", "balloonOf MIN 0 = -1",
            "balloonOf MAX 0 = -1");
        the.sentence(8, "HEIGHT (0 at first), a ROPE (50 at first), GAS (100 ..), SAND (50 ..), BREAD (20 ..), MOUTHS "
            + "(1 at first)", "balloon 5 9 5 = 0", "balloonOf 0 0 = 5", "balloonOf 0 1 = 9", "balloonOf 0 2 = 5",
            "balloonOf 0 3 = 0", "balloonOf 0 4 = 50", "balloonOf 0 5 = 100", "balloonOf 0 6 = 50", "balloonOf 0 7 = 20",
            "balloonOf 0 8 = 1");
        the.sentence(8, "WEIGHT: SAND, BREAD, MOUTHS, and A", "tell silk 9 in 0 sand 999 bread 99 mouths 9;"
            + "silk 0 in 0 sand 0 bread 0 mouths 0;silk 1 in 0 sand 20 bread 40 mouths 8; = 3", "balloonOf 0 9 = 1116",
            "balloonOf 1 9 = 0", "balloonOf 2 9 = 69");
    }

    private static void targets() {
        the.sentence(8, "TARGET: not below 0", "balloon 0 0 0 = 0", "becomes 0 5 72 = 100", "balloonOf 0 10 = 1",
            "becomes 0 5 71 = 72", "balloonOf 0 10 = 0", "becomes 0 5 70 = 71", "balloonOf 0 10 = 0",
            "becomes 0 5 0 = 70", "balloonOf 0 10 = 0", "mind 0 5 0 = 0", "balloonOf 0 10 = 0");
        the.sentence(8, "TARGET: not above ROPE", "balloon 0 0 0 = 0", "becomes 0 4 30 = 50", "balloonOf 0 10 = 29",
            "becomes 0 4 29 = 30", "balloonOf 0 10 = 29", "becomes 0 4 28 = 29", "balloonOf 0 10 = 28",
            "becomes 0 4 1 = 28", "balloonOf 0 10 = 1", "becomes 0 5 999 = 100", "becomes 0 4 99 = 1",
            "balloonOf 0 10 = 99");
        the.sentence(8, "of a barge half of that (cut; ahead of ROPE)", "balloon 5 0 0 = 0", "balloonOf 0 10 = 14",
            "becomes 0 5 101 = 100", "balloonOf 0 10 = 15", "becomes 0 5 171 = 101", "balloonOf 0 10 = 50",
            "becomes 0 5 170 = 171", "balloonOf 0 10 = 49", "becomes 0 5 72 = 170", "balloonOf 0 10 = 0");
        the.sentence(8, "LIFT: balloon: GAS, and GAS times t by 100", "tell balloon 0 in 0 rope 99; = 1",
            "warm 0 40 = 100", "balloonOf 0 10 = 69", "warm 0 -20 = 140", "balloonOf 0 10 = 9");
        the.sentence(8, "LIFT: silk: GAS, and GAS times 2 t by 100", "tell silk 0 in 0 sand 0 rope 99; = 1",
            "warm 0 9 = 100", "balloonOf 0 10 = 97", "warm 0 -20 = 109", "balloonOf 0 10 = 39");
        the.sentence(8, "LIFT: leaky, patched, barge: as a balloon", "tell leaky 0 in 0 rope 99;patched 0 in 0 rope 99;"
            + "barge 0 in 0 rope 99; = 3", "warm 0 40 = 100", "balloonOf 0..1 10 = 69", "balloonOf 2 10 = 34");
        the.sentence(8, "LIFT: chapel: as a silk one, and 5", "tell chapel 0 in 0 sand 0 rope 99; = 1",
            "warm 0 6 = 100", "balloonOf 0 10 = 96", "warm 0 -20 = 106", "balloonOf 0 10 = 44");
        the.sentence(8, "Quotients are cut towards 0 (above 0)", "tell balloon 0 in 0 gas 199;silk 0 in 0 gas 149; = 2",
            "becomes 0 6 150 = 50", "becomes 1 6 100 = 50", "warm 0 1 = 100", "balloonOf 0 10 = 29",
            "balloonOf 1 10 = 30", "warm 0 2 = 101", "balloonOf 0 10 = 31", "balloonOf 1 10 = 33");
        the.sentence(8, "Quotients are cut towards 0 (below 0)", "tell balloon 0 in 0 gas 199;silk 0 in 0 gas 149; = 2",
            "becomes 0 6 150 = 50", "becomes 1 6 100 = 50", "warm 0 -1 = 100", "balloonOf 0 10 = 27",
            "balloonOf 1 10 = 26", "warm 0 -2 = 99", "balloonOf 0 10 = 25", "balloonOf 1 10 = 23");
        the.sentence(8, "Quotients are cut towards 0 (of a chapel)", "tell chapel 0 in 0 gas 999 sand 560; = 1",
            "warm 0 -20 = 100", "balloonOf 0 10 = 24", "becomes 0 6 561 = 560", "balloonOf 0 10 = 23");
        the.sentence(8, "TARGET in the HOUR of NOW: the rest of NOW by 24", "balloon 0 0 0 = 0", "warm 0 1 = 100",
            "warm 23 2 = 100", "balloonOf 0 10 = 30", "clock 23 = 0", "balloonOf 0 10 = 31", "clock 24 = 23",
            "balloonOf 0 10 = 30", "clock 25 = 24", "balloonOf 0 10 = 29", "clock 95 = 25", "balloonOf 0 10 = 31",
            "clock 96 = 95", "balloonOf 0 10 = 30");
    }

    private static void leaks() {
        the.sentence(8, "LEAKS: leaky: 2", "balloon 2 0 0 = 0", "balloonOf 0 11 = 2", "clock 1 = 0", "balloonOf 0 11 = 2",
            "becomes 0 5 0 = 100", "balloonOf 0 11 = 2");
        the.sentence(8, "LEAKS: patched: 1 if h is even", "balloon 3 0 0 = 0", "balloonOf 0 11 = 1", "clock 1 = 0",
            "balloonOf 0 11 = 0", "clock 23 = 1", "balloonOf 0 11 = 0", "clock 24 = 23", "balloonOf 0 11 = 1",
            "clock 95 = 24", "balloonOf 0 11 = 0", "clock 96 = 95", "balloonOf 0 11 = 1");
        the.sentence(8, "LEAKS: others 0", "balloon 0 0 0 = 0", "balloon 1 0 0 = 1", "balloon 4 0 0 = 2",
            "balloon 5 0 0 = 3", "balloonOf 0..3 11 = 0", "clock 1 = 0", "balloonOf 0..3 11 = 0");
    }

    private static void becomes() {
        String[] names = {"", "", "COLUMN (0 to 5)", "HEIGHT (0 to 99)", "ROPE (1 to 99)", "GAS (0 to 999)",
            "SAND (0 to 999)", "BREAD (0 to 99)", "MOUTHS (0 to 9)"};
        int[] least = {0, 0, 0, 0, 1, 0, 0, 0, 0}, most = {0, 0, 5, 99, 99, 999, 999, 99, 9};
        int[] first = {0, 0, 4, 0, 50, 100, 50, 20, 1};
        for (int what = 2; what <= 8; what++) {
            String part = "becomes 0 " + what + " ", is = "balloonOf 0 " + what + " = ";
            the.sentence(9, names[what] + ", the least", "balloon 0 0 4 = 0", part + (least[what] - 1) + " = -1",
                part + "MIN = -1", is + first[what], part + least[what] + " = " + first[what], is + least[what]);
            the.sentence(9, names[what] + ", the most", "balloon 0 0 4 = 0", part + (most[what] + 1) + " = -1",
                part + "MAX = -1", is + first[what], part + most[what] + " = " + first[what], is + most[what]);
        }
        the.sentence(9, "what = 2 COLUMN to 8 MOUTHS", "balloon 1 3 4 = 0", "becomes 0 -1..1 1 = -1",
            "becomes 0 9..12 1 = -1", "becomes 0 MIN 1 = -1", "becomes 0 MAX 1 = -1", "balloonOf 0 0 = 1",
            "balloonOf 0 1 = 3");
        the.sentence(9, "BAD: there is no such BALLOON", "becomes 0 3 1 = -1", "balloon 0 0 0 = 0", "becomes -1 3 1 = -1",
            "becomes 1 3 1 = -1", "becomes MIN 3 1 = -1", "becomes MAX 3 1 = -1", "becomes 0 3 1 = 0");
        the.sentence(9, "A part becomes v (of that one alone)", "balloon 0 0 0 = 0", "balloon 0 0 0 = 1",
            "becomes 1 7 9 = 20", "balloonOf 0 7 = 20", "balloonOf 1 7 = 9", "balloonOf 1 6 = 50", "balloonOf 1 8 = 1");
    }

    private static void mind() {
        the.sentence(10, "KIND: 0 to 5", "balloon 2 3 4 = 0", "mind 0 -1 0 = -1", "mind 0 6 0 = -1", "mind 0 MIN 0 = -1",
            "mind 0 MAX 0 = -1", "balloonOf 0 1 = 3", "mind 0 5 0 = 2", "mind 0 0 0 = 5", "balloonOf 0 0 = 0");
        the.sentence(10, "A (0 to 9)", "balloon 2 3 4 = 0", "mind 0 1 -1 = -1", "mind 0 1 10 = -1", "mind 0 1 MIN = -1",
            "mind 0 1 MAX = -1", "balloonOf 0 0 = 2", "mind 0 1 9 = 2", "balloonOf 0 1 = 9", "mind 0 1 0 = 1",
            "balloonOf 0 1 = 0");
        the.sentence(10, "BAD: there is no such BALLOON", "mind 0 1 1 = -1", "balloon 0 0 0 = 0", "mind -1 1 1 = -1",
            "mind 1 1 1 = -1", "mind MIN 1 1 = -1", "mind MAX 1 1 = -1", "balloonOf 0 0 = 0");
        the.sentence(10, "A BALLOON becomes one of another KIND (the rest stays)", "balloon 2 3 4 = 0",
            "becomes 0 3 11 = 0", "becomes 0 4 12 = 50", "becomes 0 5 13 = 100", "becomes 0 6 14 = 50",
            "becomes 0 7 15 = 20", "becomes 0 8 6 = 1", "mind 0 4 5 = 2", "balloonOf 0 2 = 4", "balloonOf 0 3 = 11",
            "balloonOf 0 4 = 12", "balloonOf 0 5 = 13", "balloonOf 0 6 = 14", "balloonOf 0 7 = 15", "balloonOf 0 8 = 6");
    }

    private static void pour() {
        the.sentence(11, "n of SAND (1 ..)", "balloon 0 0 0 = 0", "pour 0 0 = -1", "pour 0 -1 = -1", "pour 0 MIN = -1",
            "balloonOf 0 6 = 50", "pour 0 1 = 49");
        the.sentence(11, "n of SAND (.. to 999)", "tell balloon 0 in 0 sand 999; = 1", "pour 0 1000 = -1",
            "pour 0 MAX = -1", "balloonOf 0 6 = 999", "pour 0 999 = 0");
        the.sentence(11, "STATE: it has less", "balloon 0 0 0 = 0", "pour 0 51 = -4", "pour 0 999 = -4",
            "balloonOf 0 6 = 50", "pour 0 50 = 0", "pour 0 1 = -4", "balloonOf 0 6 = 0");
        the.sentence(11, "how much is left; it is gone", "balloon 0 0 0 = 0", "balloon 0 0 0 = 1", "pour 0 8 = 42",
            "pour 0 2 = 40", "balloonOf 0 6 = 40", "balloonOf 1 6 = 50", "balloonOf 0 9 = 61");
        the.sentence(11, "BAD: there is no such BALLOON", "pour 0 1 = -1", "balloon 0 0 0 = 0", "pour 1 1 = -1",
            "pour -1 1 = -1", "pour MIN 1 = -1", "pour MAX 1 = -1");
        the.sentence(11, "of several the first named: BAD, STATE", "balloon 0 0 0 = 0", "pour 0 1000 = -1",
            "pour 1 51 = -1");
    }

    private static void give() {
        String two = "tell balloon 0 in 0;balloon 0 in 0; = 2";
        the.sentence(12, "n (1 ..)", two, "give 0 1 0 0 = -1", "give 0 1 1 -1 = -1", "give 0 1 0 MIN = -1",
            "balloonOf 0..1 6 = 50", "give 0 1 0 1 = 51", "give 0 1 1 1 = 21");
        the.sentence(12, "n (.. to 99)", two, "becomes 0 6 999 = 50", "becomes 0 7 99 = 20", "becomes 1 7 0 = 20",
            "give 0 1 0 100 = -1", "give 0 1 1 100 = -1", "give 0 1 0 MAX = -1", "balloonOf 1 6 = 50",
            "give 0 1 0 99 = 149", "give 0 1 1 99 = 99");
        the.sentence(12, "SAND (what 0), BREAD (1)", two, "give 0 1 -1 1 = -1", "give 0 1 2 1 = -1", "give 0 1 MIN 1 = -1",
            "give 0 1 MAX 1 = -1", "give 0 1 0 3 = 53", "balloonOf 0 6 = 47", "balloonOf 0..1 7 = 20",
            "give 0 1 1 4 = 24", "balloonOf 0 7 = 16", "balloonOf 1 6 = 53");
        the.sentence(12, "BAD: there is no such BALLOON", two, "give 2 0 0 1 = -1", "give 0 2 0 1 = -1",
            "give -1 0 0 1 = -1", "give 0 -1 0 1 = -1", "give MIN 0 0 1 = -1", "give 0 MAX 0 1 = -1",
            "balloonOf 0..1 6 = 50");
        the.sentence(12, "BAD: also the same", two, "give 0 0 0 1 = -1", "give 1 1 1 1 = -1", "balloonOf 0..1 6 = 50");
        the.sentence(12, "STATE: it has less (SAND)", two, "give 0 1 0 51 = -4", "balloonOf 1 6 = 50",
            "give 0 1 0 50 = 100", "balloonOf 0 6 = 0", "give 0 1 0 1 = -4");
        the.sentence(12, "STATE: it has less (BREAD)", two, "give 0 1 1 21 = -4", "balloonOf 1 7 = 20",
            "give 0 1 1 20 = 40", "balloonOf 0 7 = 0", "give 0 1 1 1 = -4");
        the.sentence(12, "STATE: there is no room (SAND)", two, "becomes 1 6 990 = 50", "give 0 1 0 10 = -4",
            "balloonOf 0 6 = 50", "balloonOf 1 6 = 990", "give 0 1 0 9 = 999", "balloonOf 0 6 = 41", "give 0 1 0 1 = -4");
        the.sentence(12, "STATE: there is no room (BREAD)", two, "becomes 1 7 90 = 20", "give 0 1 1 10 = -4",
            "balloonOf 0 7 = 20", "balloonOf 1 7 = 90", "give 0 1 1 9 = 99", "balloonOf 0 7 = 11", "give 0 1 1 1 = -4");
        the.sentence(12, "of several the first named: BAD, STATE", "tell balloon 0 in 0;balloon 0 in 1; = 2",
            "give 0 1 0 99 = -4", "give 0 1 0 100 = -1", "give 0 1 2 1 = -1", "give 0 0 0 1 = -1", "give 0 2 0 1 = -1");
    }

    private static void giveToWhom() {
        String two = "tell balloon 0 in 0;balloon 0 in 0; = 2";
        String three = "tell balloon 0 in 0;balloon 0 in 0;balloon 0 in 0; = 3";
        the.sentence(12, "no more than 20 apart (above)", two, "becomes 0 3 10 = 0", "becomes 1 3 31 = 0",
            "give 0 1 0 1 = -4", "balloonOf 0..1 6 = 50", "becomes 1 3 30 = 31", "give 0 1 0 1 = 51");
        the.sentence(12, "no more than 20 apart (below)", two, "becomes 1 3 10 = 0", "becomes 0 3 31 = 0",
            "give 0 1 1 1 = -4", "balloonOf 0..1 7 = 20", "becomes 0 3 30 = 31", "give 0 1 1 1 = 21");
        the.sentence(12, "one of the same COLUMN", two, "becomes 1 2 5 = 0", "give 0 1 0 1 = -4", "give 1 0 0 1 = -4",
            "becomes 0 2 5 = 0", "give 0 1 0 1 = 51");
        the.sentence(12, "that is next above or next below (not one beyond another)", three, "becomes 0 3 10 = 0",
            "becomes 1 3 12 = 0", "becomes 2 3 11 = 0", "give 0 1 0 1 = -4", "give 1 0 0 1 = -4", "give 0 2 0 1 = 51",
            "give 2 1 0 1 = 51", "give 1 2 0 1 = 51", "give 2 0 0 1 = 50");
        the.sentence(12, "of like ones the greater number hangs above", three, "give 0 2 0 1 = -4", "give 2 0 0 1 = -4",
            "give 0 1 0 1 = 51", "give 2 1 0 1 = 52", "give 1 0 0 1 = 50", "give 1 2 0 1 = 50");
        the.sentence(12, "those in it (one of another COLUMN hangs between nobody)", three, "becomes 0 3 10 = 0",
            "becomes 1 3 12 = 0", "becomes 2 3 11 = 0", "becomes 2 2 1 = 0", "give 0 1 0 1 = 51");
    }

    private static void touches() {
        String two = "tell balloon 0 in 0;balloon 0 in 0; = 2";
        the.sentence(13, "their HEIGHTS differ by less than GAP", two, "becomes 0 3 10 = 0", "becomes 1 3 13 = 0",
            "touches 0..1 = 0", "becomes 1 3 12 = 13", "touches 0 = 2", "touches 1 = 1", "becomes 1 3 8 = 12",
            "touches 0 = 2", "touches 1 = 1", "becomes 1 3 7 = 8", "touches 0..1 = 0");
        the.sentence(13, "less than GAP (1 at least)", two, "gap 1 = 3", "becomes 0 3 10 = 0", "becomes 1 3 11 = 0",
            "touches 0..1 = 0", "becomes 1 3 10 = 11", "touches 0 = 2");
        the.sentence(13, "less than GAP (20 at most)", two, "gap 20 = 3", "becomes 0 3 10 = 0", "becomes 1 3 30 = 0",
            "touches 0..1 = 0", "becomes 1 3 29 = 30", "touches 0 = 2");
        the.sentence(13, "both are above 0", two, "touches 0..1 = 0", "becomes 0 3 1 = 0", "touches 0..1 = 0",
            "becomes 1 3 1 = 0", "touches 0 = 2", "touches 1 = 1", "becomes 0 3 0 = 1", "touches 0..1 = 0");
        the.sentence(13, "Two of one COLUMN", two, "becomes 0 3 10 = 0", "becomes 1 3 10 = 0", "touches 0 = 2",
            "becomes 1 2 1 = 0", "touches 0..1 = 0", "becomes 0 2 1 = 0", "touches 0 = 2");
        the.sentence(13, "a set, told by bits (of six)", "tell silk 0 in 3;silk 0 in 3;silk 0 in 3;silk 0 in 3;"
            + "silk 0 in 3;silk 0 in 3; = 6", "hours 1 = 1", "touches 0 = 62", "touches 1 = 61", "touches 2 = 59",
            "touches 3 = 55", "touches 4 = 47", "touches 5 = 31");
        the.sentence(13, "BAD: there is no such BALLOON", "touches 0 = -1", "balloon 0 0 0 = 0", "touches 0 = 0",
            "touches 1 = -1", "touches -1 = -1", "touches MIN = -1", "touches MAX = -1");
    }

    private static void above() {
        String three = "tell balloon 0 in 0;balloon 0 in 0;balloon 0 in 0; = 3";
        the.sentence(14, "next above (what 0), next below (1)", three, "above 1 -1 = -1", "above 1 2 = -1",
            "above 1 MIN = -1", "above 1 MAX = -1", "above 1 0 = 2", "above 1 1 = 0");
        the.sentence(14, "NONE (the highest, the lowest)", three, "above 2 0 = -3", "above 0 1 = -3", "above 0 0 = 1",
            "above 2 1 = 1");
        the.sentence(14, "NONE (one alone in its COLUMN)", three, "becomes 1 2 5 = 0", "above 1 0..1 = -3", "above 0 0 = 2",
            "above 2 1 = 0");
        the.sentence(14, "of like ones the greater number hangs above", three, "becomes 0 3 9 = 0", "becomes 1 3 9 = 0",
            "above 0 0 = 1", "above 1 1 = 0", "above 1 0 = -3", "above 0 1 = 2", "above 2 0 = 0");
        the.sentence(14, "next above, by HEIGHT", three, "becomes 0 3 99 = 0", "becomes 1 3 1 = 0", "above 2 0 = 1",
            "above 1 0 = 0", "above 0 0 = -3", "above 0 1 = 1", "above 1 1 = 2", "above 2 1 = -3");
        the.sentence(14, "next above (however far)", three, "becomes 2 3 99 = 0", "above 1 0 = 2", "above 2 1 = 1");
        the.sentence(14, "BAD: there is no such BALLOON", "above 0 0 = -1", three, "above 3 0 = -1", "above -1 0 = -1",
            "above MIN 1 = -1", "above MAX 1 = -1");
    }

    private static void hours() {
        the.sentence(15, "n HOURS (0 ..)", "balloon 2 0 0 = 0", "hours -1 = -1", "hours MIN = -1", "hours 0 = 0",
            "balloonOf 0 3 = 0", "balloonOf 0 5 = 100", "balloonOf 0 7 = 20", "many 2 = 0");
        the.sentence(15, "n HOURS (.. to 48)", "balloon 2 0 0 = 0", "hours 49 = -1", "hours MAX = -1", "many 2 = 0",
            "balloonOf 0 5 = 100", "hours 48 = 48", "balloonOf 0 5 = 4", "many 2 = 48");
        the.sentence(15, "as far as there are such: not behind 96", "balloon 2 0 0 = 0", "clock 95 = 0", "hours 48 = 96",
            "balloonOf 0 5 = 98", "hours 48 = 96", "balloonOf 0 5 = 98", "balloonOf 0 7 = 19", "balloonOf 0 3 = 10");
        the.sentence(15, "as far as there are such (just so many)", "clock 48 = 0", "hours 48 = 96", "clock 47 = 96",
            "hours 48 = 95", "hours 1 = 96", "hours 1 = 96");
        the.sentence(15, "GAS is less by LEAKS (0 at least)", "tell leaky 0 in 0 gas 5;patched 0 in 0 gas 1; = 2",
            "hours 1 = 1", "balloonOf 0 5 = 3", "balloonOf 1 5 = 0", "hours 1 = 2", "balloonOf 0 5 = 1", "hours 1 = 3",
            "balloonOf 0..1 5 = 0", "hours 1 = 4", "balloonOf 0..1 5 = 0");
        the.sentence(15, "LEAKS in the HOUR that goes", "tell patched 0 in 0; = 1", "hours 1 = 1", "balloonOf 0 5 = 99",
            "hours 1 = 2", "balloonOf 0 5 = 99", "hours 1 = 3", "balloonOf 0 5 = 98");
        the.sentence(15, "BREAD is less by MOUTHS (0 at least)", "tell silk 0 in 0 bread 4 mouths 2;silk 0 in 0 mouths 0;"
            + "silk 0 in 0 bread 0 mouths 9; = 3", "hours 1 = 1", "balloonOf 0 7 = 2", "hours 1 = 2", "balloonOf 0 7 = 0",
            "hours 1 = 3", "balloonOf 0 7 = 0", "balloonOf 1 7 = 20", "balloonOf 2 7 = 0");
        the.sentence(15, "who has less than MOUTHS eats all", "tell silk 0 in 0 bread 8 mouths 9;"
            + "silk 0 in 0 bread 9 mouths 9;silk 0 in 0 bread 10 mouths 9; = 3", "hours 1 = 1", "balloonOf 0..1 7 = 0",
            "balloonOf 2 7 = 1", "balloonOf 0..2 8 = 9");
        the.sentence(15, "the HOUR: the rest of NOW by 24", "balloon 0 0 0 = 0", "becomes 0 8 0 = 1", "warm 23 -20 = 100",
            "becomes 0 3 10 = 0", "clock 22 = 0", "hours 1 = 23", "balloonOf 0 3 = 20", "hours 1 = 24",
            "balloonOf 0 3 = 10", "hours 1 = 25", "balloonOf 0 3 = 20", "clock 95 = 25", "hours 1 = 96",
            "balloonOf 0 3 = 10");
    }

    private static void heightsByHours() {
        String one = "tell balloon 0 in 0 mouths 0; = 1";
        the.sentence(15, "HEIGHT goes towards TARGET by 10 at most (up)", one, "becomes 0 3 19 = 0", "hours 1 = 1",
            "balloonOf 0 3 = 29", "hours 1 = 2", "balloonOf 0 3 = 30", "becomes 0 3 20 = 30", "hours 1 = 3",
            "balloonOf 0 3 = 30", "hours 1 = 4", "balloonOf 0 3 = 30");
        the.sentence(15, "HEIGHT goes towards TARGET by 10 at most (down)", one, "becomes 0 3 41 = 0", "hours 1 = 1",
            "balloonOf 0 3 = 31", "hours 1 = 2", "balloonOf 0 3 = 30", "becomes 0 3 40 = 30", "hours 1 = 3",
            "balloonOf 0 3 = 30", "becomes 0 3 99 = 30", "hours 1 = 4", "balloonOf 0 3 = 89");
        the.sentence(15, "HEIGHT (0 to 99), of AN HOUR too", "tell silk 0 in 0 gas 0;silk 0 in 1 gas 999 rope 99; = 2",
            "becomes 0 3 9 = 0", "becomes 1 3 90 = 0", "hours 1 = 1", "balloonOf 0 3 = 0", "balloonOf 1 3 = 99",
            "hours 1 = 2", "balloonOf 0 3 = 0", "balloonOf 1 3 = 99");
        the.sentence(15, "then GAS is less, BREAD is less (TARGET by what there was)", "tell leaky 0 in 0 gas 75;"
            + "balloon 0 in 1 gas 80 mouths 9; = 2", "hours 1 = 1", "balloonOf 0 3 = 4", "balloonOf 1 3 = 1",
            "hours 1 = 2", "balloonOf 0 3 = 3", "balloonOf 1 3 = 10");
        the.sentence(15, "of each by numbers", "tell silk 0 in 0;leaky 0 in 0;patched 0 in 0;chapel 0 in 0;barge 0 in 0;"
            + "balloon 0 in 0; = 6", "hours 1 = 1", "balloonOf 0..5 3 = 10", "balloonOf 0..5 7 = 19", "balloonOf 0 5 = 100",
            "balloonOf 1 5 = 98", "balloonOf 2 5 = 99", "balloonOf 3..5 5 = 100");
    }

    private static void clock() {
        the.sentence(16, "v (0 ..)", "clock 7 = 0", "clock -1 = -1", "clock MIN = -1", "many 2 = 7", "clock 0 = 7",
            "many 2 = 0");
        the.sentence(16, "v (.. to 96)", "clock 97 = -1", "clock MAX = -1", "many 2 = 0", "clock 96 = 0", "many 2 = 96",
            "clock 95 = 96", "clock 0 = 95");
        the.sentence(16, "NOW becomes v (and nothing else goes)", "balloon 2 0 0 = 0", "clock 96 = 0", "balloonOf 0 3 = 0",
            "balloonOf 0 5 = 100", "balloonOf 0 7 = 20");
    }
}
