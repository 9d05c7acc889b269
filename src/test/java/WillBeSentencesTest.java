/**
 * Promises 17 to 29: a test of its own for each sentence of the document that names an
 * edge. With MOUTHS 0 a balloon's TARGET in WARMTH 0 stays GAS less SAND, BREAD and A.
 */
public final class WillBeSentencesTest {
    private static final Sentences the = new Sentences();

    /** At 30 from behind 3 HOURS on. */
    private static final String RISING = "balloon 0 in 0 mouths 0;";
    /** Behind each HOUR 1 higher, up to 48: it eats 1 of 48 of BREAD. */
    private static final String CLIMBING = "balloon 0 in 0 bread 48;";
    /** The same, with 24 of BREAD; up to 25. */
    private static final String CLIMBING_24 = "balloon 0 in 0 sand 74 bread 24;";
    /** 0 goes from 20 by 30 to 34, and 1 stays at 35. */
    private static final String[] NEARING = {"tell balloon 0 in 0 sand 46 mouths 0;balloon 0 in 0 sand 45 mouths 0; = 2",
        "becomes 0 3 20 = 0", "becomes 1 3 35 = 0"};
    /** 0 climbs to 24 behind 24 HOURS, 1 stays at 26: they touch then first. */
    private static final String[] TOUCHING_BEHIND_24 = {"tell " + CLIMBING_24 + "balloon 0 in 0 gas 999 rope 26; = 2",
        "becomes 1 3 26 = 0"};
    /** The same with 48: 1 stays at 50. */
    private static final String[] TOUCHING_BEHIND_48 = {"tell " + CLIMBING + "balloon 0 in 0 gas 999; = 2",
        "becomes 1 3 50 = 0"};

    public static void main(String[] args) {
        height();
        first();
        firstWhich();
        clear();
        leastSand();
        ropeFor();
        columnFor();
        lasts();
        reached();
        help();
        helpCounts();
        cold();
        coldByHours();
        highest();
        seed();
        draw();
        lateCalls();
        the.end(17, 29);
    }

    private static void sentence(int promise, String told, String[] ahead, String... rows) {
        String[] all = new String[ahead.length + rows.length];
        System.arraycopy(ahead, 0, all, 0, ahead.length);
        System.arraycopy(rows, 0, all, ahead.length, rows.length);
        the.sentence(promise, told, all);
    }

    private static void height() {
        String rising = "tell " + RISING + " = 1", climbing = "tell " + CLIMBING + " = 1";
        the.sentence(17, "n HOURS (0 ..)", rising, "height 0 -1 = -1", "height 0 MIN = -1", "height 0 0 = 0",
            "height 0 1 = 10", "becomes 0 3 44 = 0", "height 0 0 = 44", "height 0 1 = 34");
        the.sentence(17, "n HOURS (.. to 48)", climbing, "height 0 49 = -1", "height 0 MAX = -1", "height 0 47 = 47",
            "height 0 48 = 48");
        the.sentence(17, "as far as there are such", climbing, "clock 48 = 0", "height 0 48 = 48", "clock 49 = 48",
            "height 0 48 = 47", "clock 95 = 49", "height 0 1 = 1", "height 0 48 = 1", "clock 96 = 95", "height 0 48 = 0");
        the.sentence(17, "nothing changes", "tell leaky 0 in 0; = 1", "height 0 48 = 0", "balloonOf 0 3 = 0",
            "balloonOf 0 5 = 100", "balloonOf 0 7 = 20", "many 2 = 0", "height 0 1 = 10", "height 0 1 = 10");
        the.sentence(17, "goes on from all as it is: its HOUR is the rest of NOW by 24", rising, "clock 23 = 0",
            "warm 0 -20 = 100", "height 0 1 = 10", "height 0 2 = 10", "height 0 3 = 20", "clock 22 = 23",
            "height 0 2 = 20", "height 0 3 = 10", "warm 23 -20 = 100", "clock 95 = 22", "becomes 0 3 20 = 0",
            "height 0 1 = 10", "height 0 2 = 10");
        the.sentence(17, "A TRIAL: LEAKS, and BREAD that is eaten", "tell leaky 0 in 0 gas 73 mouths 0;"
            + "balloon 0 in 0 gas 60 bread 18 mouths 9; = 2", "height 0 1 = 3", "height 0 2 = 1", "height 0 3 = 0",
            "height 1 1 = 0", "height 1 2 = 0", "height 1 3 = 1");
        the.sentence(17, "BAD: there is no such BALLOON", "height 0 0 = -1", rising, "height 1 0 = -1", "height -1 0 = -1",
            "height MIN 0 = -1", "height MAX 0 = -1");
    }

    private static void first() {
        sentence(18, "HOURS (.. to 48)", TOUCHING_BEHIND_48, "first 0 = 48", "first 1 = 1");
        sentence(18, "HOURS (not behind 49)", TOUCHING_BEHIND_48, "becomes 0 7 49 = 48", "first 0 = -3", "first 1 = -3");
        the.sentence(18, "HOURS (0 ..)", "tell silk 0 in 0;silk 0 in 0; = 2", "becomes 0 3 2 = 0", "becomes 1 3 2 = 0",
            "first 0 = 0", "first 1 = 1");
        sentence(18, "as far as there are such", TOUCHING_BEHIND_48, "clock 48 = 0", "first 0 = 48", "clock 49 = 48",
            "first 0 = -3", "clock 96 = 49", "first 0 = -3", "becomes 0 3 49 = 0", "first 0 = 0");
        sentence(18, "TOUCH first (they pass one another then)", NEARING, "becomes 0 6 0 = 46", "becomes 0 3 23 = 20",
            "first 0 = 1", "first 1 = 1", "height 0 2 = 43");
        the.sentence(18, "NONE (nobody, and one alone)", "first 0..1 = -3", "balloon 0 0 0 = 0", "first 0..1 = -3");
        the.sentence(18, "NONE (two on the ground, and of two COLUMNS)", "tell silk 0 in 0 gas 0;silk 0 in 0 gas 0;"
            + "silk 0 in 1; = 3", "first 0..1 = -3");
        sentence(18, "behind how many HOURS (what 0), which (1)", NEARING, "first -1 = -1", "first 2 = -1",
            "first MIN = -1", "first MAX = -1", "first 0 = 2", "first 1 = 1");
        the.sentence(18, "of several the first named: BAD, NONE", "first 2 = -1", "first 1 = -3");
    }

    private static void firstWhich() {
        String six = "tell silk 0 in 0;silk 0 in 0;silk 0 in 0;silk 0 in 0;silk 0 in 0;silk 0 in 0; = 6";
        the.sentence(18, "10 times the lesser number and the other; the least such", six, "first 1 = 1",
            "becomes 0 2 1 = 0", "first 1 = 12", "becomes 1 2 1 = 0", "first 1 = 1", "becomes 0 2 2 = 1", "first 1 = 23",
            "becomes 2 2 3 = 0", "becomes 3 2 4 = 0", "first 1 = 45");
        the.sentence(18, "the least such (of those that TOUCH first, not later ones)", six, "gap 1 = 3",
            "becomes 0 3 60 = 0", "becomes 1 3 61 = 0", "becomes 2 3 62 = 0", "becomes 3 3 63 = 0", "first 0 = 1",
            "first 1 = 45");
    }

    private static void clear() {
        sentence(19, "n (.. to 48)", TOUCHING_BEHIND_48, "clear 0 49 = -1", "clear 0 MAX = -1", "clear 0..1 47 = 1",
            "clear 0..1 48 = 0");
        sentence(19, "n (0 ..)", NEARING, "clear 0 -1 = -1", "clear 0 MIN = -1", "clear 0 0 = 1", "becomes 0 3 33 = 20",
            "clear 0..1 0 = 0");
        sentence(19, "behind any of HOURS 0 to n (n too, not n and 1)", NEARING, "clear 0..1 1 = 1", "clear 0..1 2 = 0");
        sentence(19, "behind any of HOURS 0 to n (0 too, though not later)", NEARING, "becomes 0 3 33 = 20",
            "becomes 0 6 0 = 46", "clear 0 1 = 0", "clear 0 48 = 0", "becomes 0 3 32 = 33", "clear 0 48 = 1");
        sentence(19, "as far as there are such", TOUCHING_BEHIND_48, "clock 48 = 0", "clear 0 48 = 0", "clock 49 = 48",
            "clear 0 48 = 1", "clock 96 = 49", "clear 0 48 = 1", "becomes 0 3 48 = 0", "clear 0 48 = 0");
        the.sentence(19, "it TOUCHES nobody (others may)", "tell silk 0 in 0;silk 0 in 0;silk 0 in 1; = 3", "clear 0 48 = 0",
            "clear 1 48 = 0", "clear 2 48 = 1");
        the.sentence(19, "BAD: there is no such BALLOON", "clear 0 0 = -1", "balloon 0 0 0 = 0", "clear 0 0 = 1",
            "clear 1 0 = -1", "clear -1 0 = -1", "clear MIN 0 = -1", "clear MAX 0 = -1");
    }

    private static void leastSand() {
        sentence(20, "n (.. to 24)", TOUCHING_BEHIND_24, "leastSand 0 25 = -1", "leastSand 0 MAX = -1",
            "leastSand 0 23 = 0", "leastSand 0 24 = 26");
        sentence(20, "n (0 ..)", NEARING, "leastSand 0 -1 = -1", "leastSand 0 MIN = -1", "leastSand 0 0 = 0");
        sentence(20, "the least n of SAND", NEARING, "leastSand 0 1 = 0", "leastSand 0 2 = 4", "pour 0 3 = 43",
            "leastSand 0 2 = 1", "pour 0 1 = 42", "leastSand 0 2 = 0");
        sentence(20, "0 .. (also where it has none)", NEARING, "becomes 0 6 0 = 46", "becomes 0 5 58 = 100",
            "leastSand 0 24 = 0", "becomes 0 5 57 = 58", "leastSand 0 24 = -3");
        sentence(20, ".. to what it has", NEARING, "becomes 0 6 4 = 46", "becomes 0 5 58 = 100", "leastSand 0 24 = 4",
            "becomes 0 6 3 = 4", "becomes 0 5 57 = 58", "leastSand 0 24 = -3");
        sentence(20, "NONE (it TOUCHES now, POURED or not)", NEARING, "becomes 0 3 37 = 20", "leastSand 0..1 0 = -3",
            "becomes 0 3 38 = 37", "leastSand 0 0 = 0");
        sentence(20, "such a call changes nothing; nor does another one", NEARING, "leastSand 0 2 = 4", "balloonOf 0 6 = 46",
            "becomes 0 4 37 = 50", "leastSand 0 2 = -3", "balloonOf 0 6 = 46", "balloonOf 0 3 = 20");
        sentence(20, "as far as there are such", NEARING, "clock 95 = 0", "leastSand 0 24 = 0", "clock 94 = 95",
            "leastSand 0 24 = 4", "clock 96 = 94", "leastSand 0 24 = 0");
        sentence(20, "BAD: there is no such BALLOON", NEARING, "leastSand 2 0 = -1", "leastSand -1 0 = -1",
            "leastSand MIN 0 = -1", "leastSand MAX 0 = -1");
        sentence(20, "of several the first named: BAD, NONE", NEARING, "becomes 0 3 37 = 20", "leastSand 0 25 = -1",
            "leastSand 0 24 = -3");
    }

    private static void ropeFor() {
        sentence(21, "n (.. to 24)", TOUCHING_BEHIND_24, "ropeFor 0 25 = -1", "ropeFor 0 MAX = -1", "ropeFor 0 23 = 99",
            "ropeFor 0 24 = 23");
        sentence(21, "n (0 ..)", NEARING, "ropeFor 0 -1 = -1", "ropeFor 0 MIN = -1", "ropeFor 0 0 = 99");
        sentence(21, "the longest ROPE (.. to 99)", NEARING, "ropeFor 0 1 = 99", "ropeFor 0 2 = 32", "becomes 0 4 1 = 50",
            "ropeFor 0 1 = 99", "ropeFor 0 2 = 32", "becomes 0 6 43 = 46", "ropeFor 0 2 = 32", "becomes 0 6 42 = 43",
            "ropeFor 0 2 = 99");
        the.sentence(21, "the longest ROPE (1 ..)", "tell balloon 0 in 0 gas 75 mouths 0;balloon 0 in 0 gas 999 rope 4; = 2",
            "becomes 1 3 4 = 0", "ropeFor 0 24 = 1", "gap 4 = 3", "ropeFor 0 24 = -3", "gap 2 = 4", "ropeFor 0 24 = 2");
        sentence(21, "NONE (it TOUCHES now)", NEARING, "becomes 0 3 33 = 20", "ropeFor 0..1 0 = -3", "becomes 0 3 32 = 33",
            "ropeFor 0 0 = 99");
        sentence(21, "nothing changes", NEARING, "ropeFor 0 2 = 32", "balloonOf 0 4 = 50", "balloonOf 0 3 = 20");
        sentence(21, "as far as there are such", NEARING, "clock 95 = 0", "ropeFor 0 24 = 99", "clock 94 = 95",
            "ropeFor 0 24 = 32", "clock 96 = 94", "ropeFor 0 24 = 99");
        sentence(21, "BAD: there is no such BALLOON", NEARING, "ropeFor 2 0 = -1", "ropeFor -1 0 = -1", "ropeFor MIN 0 = -1",
            "ropeFor MAX 0 = -1");
        sentence(21, "of several the first named: BAD, NONE", NEARING, "becomes 0 3 33 = 20", "ropeFor 0 25 = -1",
            "ropeFor 0 24 = -3");
    }

    private static void columnFor() {
        sentence(22, "n (.. to 24)", TOUCHING_BEHIND_24, "columnFor 0 25 = -1", "columnFor 0 MAX = -1", "columnFor 0 23 = 0",
            "columnFor 0 24 = 1");
        sentence(22, "n (0 ..)", NEARING, "columnFor 0 -1 = -1", "columnFor 0 MIN = -1", "columnFor 0 0 = 0",
            "becomes 0 3 33 = 20", "columnFor 0 0 = 1");
        the.sentence(22, "the first COLUMN (0 ..)", "tell silk 0 in 5;silk 0 in 5;silk 0 in 3; = 3", "columnFor 0..2 24 = 0");
        the.sentence(22, "the first COLUMN (.. to 5)", "tell silk 0 in 0;silk 0 in 0;silk 0 in 1;silk 0 in 2;silk 0 in 3;"
            + "silk 0 in 4; = 6", "columnFor 0..1 1 = 5", "columnFor 2 1 = 1", "columnFor 5 1 = 4");
        the.sentence(22, "in which it is CLEAR (its own too)", "tell silk 0 in 0;silk 0 in 1;silk 0 in 1; = 3",
            "columnFor 1 0 = 0", "columnFor 1 1 = 2", "becomes 1 2 2 = 1", "columnFor 1 1 = 2");
        sentence(22, "with all others as they are; nothing changes", NEARING, "columnFor 0..1 2 = 1", "balloonOf 0..1 2 = 0",
            "balloonOf 0 3 = 20");
        sentence(22, "as far as there are such", NEARING, "clock 95 = 0", "columnFor 0 24 = 0", "clock 94 = 95",
            "columnFor 0 24 = 1");
        sentence(22, "BAD: there is no such BALLOON", NEARING, "columnFor 2 0 = -1", "columnFor -1 0 = -1",
            "columnFor MIN 0 = -1", "columnFor MAX 0 = -1");
    }

    private static void lasts() {
        String one = "balloon 0 0 0 = 0";
        the.sentence(23, "behind which it has none first (just, and with a rest)", one, "lasts 0 = 20", "becomes 0 8 9 = 1",
            "becomes 0 7 18 = 20", "lasts 0 = 2", "becomes 0 7 19 = 18", "lasts 0 = 3", "becomes 0 7 9 = 19",
            "lasts 0 = 1", "becomes 0 7 8 = 9", "lasts 0 = 1", "becomes 0 7 1 = 8", "lasts 0 = 1");
        the.sentence(23, "0 if it has none", one, "becomes 0 7 0 = 20", "lasts 0 = 0", "becomes 0 8 9 = 1", "lasts 0 = 0");
        the.sentence(23, "0 if it has none (and no MOUTHS)", one, "becomes 0 7 0 = 20", "becomes 0 8 0 = 1", "lasts 0 = 0");
        the.sentence(23, "NONE: it has no MOUTHS, but BREAD", one, "becomes 0 8 0 = 1", "lasts 0 = -3",
            "becomes 0 7 1 = 20", "lasts 0 = -3", "becomes 0 8 1 = 0", "lasts 0 = 1");
        the.sentence(23, "how many HOURS (more than are left)", one, "becomes 0 7 99 = 20", "lasts 0 = 99", "clock 96 = 0",
            "lasts 0 = 99");
        the.sentence(23, "how many HOURS (those that go)", one, "becomes 0 8 7 = 1", "lasts 0 = 3", "hours 2 = 2",
            "balloonOf 0 7 = 6", "lasts 0 = 1", "hours 1 = 3", "balloonOf 0 7 = 0", "lasts 0 = 0");
        the.sentence(23, "BAD: there is no such BALLOON", "lasts 0 = -1", one, "lasts 1 = -1", "lasts -1 = -1",
            "lasts MIN = -1", "lasts MAX = -1");
    }

    private static void reached() {
        String two = "tell silk 0 in 0;silk 0 in 0; = 2", three = "tell silk 0 in 0;silk 0 in 0;silk 0 in 0; = 3";
        the.sentence(24, "no more than 20 apart", two, "becomes 1 3 20 = 0", "reached 0 = 2", "reached 1 = 1",
            "becomes 1 3 21 = 20", "reached 0..1 = 0", "becomes 0 3 41 = 0", "reached 0 = 2", "reached 1 = 1",
            "becomes 0 3 42 = 41", "reached 0..1 = 0");
        the.sentence(24, "next above or next below, a set", three, "becomes 0 3 10 = 0", "becomes 1 3 11 = 0",
            "becomes 2 3 12 = 0", "reached 0 = 2", "reached 1 = 5", "reached 2 = 2", "becomes 2 3 32 = 12", "reached 1 = 1",
            "reached 2 = 0");
        the.sentence(24, "of like ones the greater number hangs above", three, "reached 0 = 2", "reached 1 = 5",
            "reached 2 = 2");
        the.sentence(24, "one of the same COLUMN", three, "becomes 1 2 1 = 0", "reached 0 = 4", "reached 1 = 0",
            "reached 2 = 1");
        the.sentence(24, "to whom one can GIVE (of six)", "tell silk 0 in 0;silk 0 in 0;silk 0 in 0;silk 0 in 0;silk 0 in 0;"
            + "silk 0 in 0; = 6", "reached 5 = 16", "reached 4 = 40", "reached 0 = 2");
        the.sentence(24, "a set (nobody)", "balloon 0 0 0 = 0", "reached 0 = 0");
        the.sentence(24, "BAD: there is no such BALLOON", "reached 0 = -1", two, "reached 2 = -1", "reached -1 = -1",
            "reached MIN = -1", "reached MAX = -1");
    }

    private static void help() {
        String two = "tell silk 0 in 0;silk 0 in 0; = 2";
        String[] late = {"tell " + CLIMBING_24 + "balloon 0 in 0 gas 999 rope 36; = 2", "becomes 1 3 20 = 0"};
        sentence(25, "n (.. to 24); HOURS .. to n", late, "help 25 = -1", "help MAX = -1", "help 23 = 1", "help 24 = 10");
        the.sentence(25, "n (1 ..)", two, "help 0 = -1", "help -1 = -1", "help MIN = -1", "help 1 = 1");
        sentence(25, "as far as there are such", late, "clock 72 = 0", "help 24 = 10", "clock 73 = 72", "help 24 = 1",
            "clock 96 = 73", "help 24 = 1");
        the.sentence(25, "10 of SAND: it has less", two, "becomes 0 6 10 = 50", "help 1 = 1", "becomes 0 6 9 = 10",
            "help 1 = 10", "becomes 1 6 10 = 50", "help 1 = 10", "becomes 1 6 9 = 10", "help 1 = -3");
        the.sentence(25, "10 of SAND: there is no room", two, "becomes 1 6 989 = 50", "help 1 = 1", "becomes 1 6 990 = 989",
            "help 1 = 10", "becomes 0 6 990 = 50", "help 1 = -3", "becomes 0 6 989 = 990", "help 1 = 10");
        the.sentence(25, "as it can be GIVEN now: no more than 20 apart", two, "becomes 1 3 20 = 0", "help 1 = 1",
            "becomes 1 3 21 = 20", "help 1 = -3");
        the.sentence(25, "as it can be GIVEN now: one of the same COLUMN", two, "becomes 1 2 1 = 0", "help 1 = -3",
            "becomes 0 2 1 = 0", "help 1 = 1");
        the.sentence(25, "NONE: there is no such GIFT (nobody, and one alone)", "help 1 = -3", "balloon 0 0 0 = 0",
            "help 24 = -3");
        the.sentence(25, "of several the first named: BAD, NONE", "help 0 = -1", "help 25 = -1", "help 1 = -3");
        the.sentence(25, "nothing changes", two, "help 24 = 1", "balloonOf 0..1 6 = 50", "balloonOf 0..1 3 = 0",
            "many 2 = 0");
    }

    private static void helpCounts() {
        String[] near = {"tell balloon 0 in 0 mouths 0;balloon 0 in 0 sand 46 mouths 0; = 2", "becomes 0 3 20 = 0",
            "becomes 1 3 25 = 0"};
        sentence(25, "of several the least (10 times who gives and to whom)", near, "help 3 = 1", "gap 7 = 3", "help 3 = 10",
            "gap 5 = 7", "help 3 = 1");
        the.sentence(25, "fewest pairs TOUCH, all counted (each HOUR)",
            "tell balloon 0 in 0 mouths 0;balloon 0 in 0 sand 46 mouths 0;gap 20; = 2",
            "becomes 0 3 20 = 0", "becomes 1 3 25 = 0", "help 1 = 1", "help 2 = 10");
        the.sentence(25, "fewest pairs TOUCH (of others too)", "tell balloon 0 in 0 sand 40 mouths 0;"
            + "balloon 0 in 0 sand 60 mouths 0;balloon 0 in 1 sand 40 mouths 0;balloon 0 in 1 mouths 0;gap 20; = 4",
            "becomes 0 3 40 = 0", "becomes 1 3 20 = 0", "becomes 2 3 40 = 0", "becomes 3 3 30 = 0", "help 5 = 23");
    }

    private static void cold() {
        String held = "tell balloon 0 in 0 gas 999 rope 10 mouths 0;balloon 0 in 0 sand 28 mouths 0; = 2";
        the.sentence(26, "the greatest number (.. to 40)", held, "becomes 0 3 10 = 0", "becomes 1 3 13 = 0",
            "becomes 1 6 27 = 28", "cold = 40", "becomes 1 6 28 = 27", "cold = 39", "becomes 1 6 29 = 28", "cold = 38");
        String high = "tell balloon 0 in 0 gas 999 rope 30 mouths 0;balloon 0 in 0 sand 28 mouths 0;gap 20; = 2";
        the.sentence(26, "the greatest number (1 ..); NONE: not even by 1", high, "becomes 0 3 30 = 0", "becomes 1 3 50 = 0",
            "cold = 2", "becomes 1 6 29 = 28", "cold = 1", "becomes 1 6 30 = 29", "cold = -3");
        the.sentence(26, "the greatest number (though by lesser ones two would TOUCH)", held, "becomes 0 3 10 = 0",
            "becomes 1 3 13 = 0", "becomes 1 6 67 = 28", "cold = 40", "warm 0 -1 = 100", "becomes 1 6 66 = 67", "cold = 40");
        the.sentence(26, "all WARMTHS so much less (below -20 too)", held, "warm 0..23 -20 = 100", "becomes 0 3 10 = 0",
            "becomes 1 3 13 = 0", "becomes 1 6 8 = 28", "cold = 39", "becomes 1 6 7 = 8", "cold = 40", "warmth 0..23 = 80");
        the.sentence(26, "no two (nobody, one alone, two COLUMNS)", "cold = 40", "balloon 0 0 0 = 0", "cold = 40",
            "balloon 0 0 1 = 1", "cold = 40");
    }

    private static void coldByHours() {
        String sinking = "tell silk 0 in 0 gas 0;silk 0 in 0 gas 0; = 2";
        the.sentence(26, "behind HOURS 1 .. (not 0)", sinking, "becomes 0 3 10 = 0", "becomes 1 3 10 = 0", "cold = 40",
            "becomes 0 3 11 = 10", "cold = 40", "becomes 1 3 11 = 10", "cold = -3");
        String late = "tell balloon 0 in 0 gas 2 sand 0 bread 23;balloon 0 in 0 gas 2 sand 0 bread 0; = 2";
        the.sentence(26, "behind HOURS .. to 24", late, "becomes 1 3 1 = 0", "height 0 23 = 0", "height 0 24 = 1",
            "cold = -3", "becomes 0 7 24 = 23", "cold = 40");
        the.sentence(26, "as far as there are such", late, "becomes 1 3 1 = 0", "clock 72 = 0", "cold = -3", "clock 73 = 72",
            "cold = 40", "clock 96 = 73", "cold = 40", "becomes 0 3 1 = 0", "cold = 40");
    }

    private static void highest() {
        String two = "tell balloon 0 in 1 sand 33 mouths 0;" + CLIMBING + " = 2";
        the.sentence(27, "n HOURS (.. to 48)", two, "becomes 0 3 47 = 0", "highest 49 = -1", "highest MAX = -1",
            "highest 46 = 0", "highest 48 = 1");
        the.sentence(27, "n HOURS (0 ..)", two, "highest -1 = -1", "highest MIN = -1", "becomes 1 3 1 = 0", "highest 0 = 1",
            "highest 1 = 0");
        the.sentence(27, "of several the least", two, "highest 0 = 0", "becomes 0 3 47 = 0", "highest 47 = 0",
            "mind 1 1 0 = 0", "highest 0 = 0");
        the.sentence(27, "as far as there are such", two, "becomes 0 3 47 = 0", "clock 48 = 0", "highest 48 = 1",
            "clock 49 = 48", "highest 48 = 0", "clock 96 = 49", "highest 48 = 0");
        the.sentence(27, "behind n HOURS (in their WARMTH)", "tell balloon 0 in 0 mouths 0;silk 0 in 0 sand 51 mouths 0; = 2",
            "highest 9 = 0", "warm 0..23 1 = 100", "highest 9 = 0", "height 0..1 9 = 31", "becomes 1 6 50 = 51",
            "highest 9 = 1", "warm 0..23 0 = 101", "highest 9 = 0", "warm 0..23 -1 = 100", "highest 9 = 0");
        the.sentence(27, "NONE: there are none", "highest 0 = -3", "highest 48 = -3", "balloon 0 0 0 = 0", "highest 0 = 0");
        the.sentence(27, "of several the first named: BAD, NONE", "highest -1 = -1", "highest 49 = -1");
        the.sentence(27, "The BALLOON that is highest (the last of six)", "tell silk 0 in 0 gas 0;silk 0 in 0 gas 0;"
            + "silk 0 in 0 gas 0;silk 0 in 0 gas 0;silk 0 in 0 gas 0;silk 0 in 0; = 6", "highest 0 = 0", "highest 1 = 5");
    }

    private static void seed() {
        the.sentence(28, "z becomes v: what it was", "seed 0 = 1", "seed MIN = 0", "seed MAX = -2147483648",
            "seed -1 = 2147483647", "seed 1 = -1");
        the.sentence(28, "z becomes v (and is drawn from)", "draw 0 = 82", "seed 1 = 1103527590", "draw 1 = 82");
    }

    private static void draw() {
        the.sentence(29, "HOURS 0 to 23", "draw -1 = -1", "draw 24 = -1", "draw MIN = -1", "draw MAX = -1", "seed 1 = 1",
            "draw 0 = 82", "draw 23 = 115", "warmth 0 = 82", "warmth 23 = 115", "warmth 1..22 = 100");
        the.sentence(29, "modulo 61, less 20 (0 of 61)", "seed -59267453 = 1", "draw 5 = 80", "seed 1 = 0", "warmth 5 = 80");
        the.sentence(29, "modulo 61, less 20 (60 of 61)", "seed 673425027 = 1", "draw 5 = 140", "seed 1 = 3932160",
            "warmth 5 = 140");
        the.sentence(29, "modulo 61, less 20 (61 itself)", "seed 327722627 = 1", "draw 5 = 80", "seed 1 = 3997696");
        the.sentence(29, "z >>> 16 (z is -1)", "seed 230538014 = 1", "draw 5 = 101", "seed 1 = -1");
        the.sentence(29, "z >>> 16 (the greatest z)", "seed -1916945634 = 1", "draw 5 = 90", "seed 1 = 2147483647");
        the.sentence(29, "z >>> 16 (the least z)", "seed 2088216195 = 1", "draw 5 = 91", "seed 1 = -2147483648");
        the.sentence(29, "z (an int) becomes z * 1103515245 + 12345 (wraps)", "seed MAX = 1", "draw 0 = 88",
            "seed MIN = 1043980748", "draw 0 = 91", "seed 1 = -2147471303");
    }

    /** The TEXT takes 9 calls of feed() and one of town(). */
    private static void lateCalls() {
        String six = "tell silk 0 in 0;silk 0 in 0;silk 0 in 0;silk 0 in 0;silk 0 in 0;silk 0 in 0; = 6";
        the.sentence(25, "An object is used for at most 512 calls (these are so many)", six, "help 1..24 = 1",
            "columnFor 0..5 0 = 0", "columnFor 0..5 1..24 = 1", "clear 0..5 1..48 = 0", "height 0..5 1 = 10",
            "warmth 0..23 = 100", "balloonOf 0..5 3 = 0", "hours 1 = 1", "many 1 = 15", "touches 5 = 31", "help 24 = 1");
    }
}
