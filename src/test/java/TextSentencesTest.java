/** Promises 2 and 3: a test of its own for each sentence of the document that names an edge. */
public final class TextSentencesTest {
    private static final Sentences the = new Sentences();
    private static final String BLANKS = " ".repeat(240);

    public static void main(String[] args) {
        feed();
        emptyTexts();
        balloons();
        optionalParts();
        warmths();
        gaps();
        names();
        numbers();
        blanks();
        otherBytes();
        seventh();
        ends();
        fullTape();
        whatItBecomes();
        refused();
        the.end(2, 3);
    }

    /** The fault is due where the sign ^ stands in the text. */
    private static void fault(String told, String marked) {
        int place = marked.indexOf('^');
        String text = marked.substring(0, place) + marked.substring(place + 1);
        the.sentence(3, told, "balloon 0 0 0 = 0", "tell " + text + " = " + (-100 - place), "many 4 = 0", "many 0 = 1");
    }

    private static void feed() {
        the.sentence(2, "n bytes (1 ..)", "feed 0 0 = -1", "feed 0 -1 = -1", "feed 0 MIN = -1", "many 4 = 0",
            "feed 0 1 = 1", "many 4 = 1");
        the.sentence(2, "n bytes (.. to 8)", "feed 0 9 = -1", "feed 0 MAX = -1", "many 4 = 0", "feed 0 8 = 8",
            "many 4 = 8");
        the.sentence(2, "the lowest of eight first", "feed 0x3b32317061670000 8 = 8", "town = -100",
            "feed 0x00003b3231706167 6 = 6", "town = 0", "gap 1 = 12");
        the.sentence(2, "n bytes come (none of the others)", "feed 0x3131313131706167 4 = 4", "feed 0x3b 1 = 5",
            "town = 0", "gap 3 = 1");
        the.sentence(2, "eight (a long below 0)", "feed 0x3b20203220706167 8 = 8", "town = 0", "gap 1 = 2",
            "feed -1 1 = 1", "town = -100", "feed 0xbb20203220706167 8 = 8", "town = -107");
        the.sentence(2, "240 at most", "tape " + BLANKS.substring(8) + " = 232", "feed 0 8 = 240", "many 4 = 240");
        the.sentence(2, "FULL: more than 240", "tape " + BLANKS + " = 240", "feed 0 1 = -2", "feed 0 8 = -2",
            "many 4 = 240", "town = 0", "feed 0 1 = 1");
        the.sentence(2, "FULL: more than 240 (though some would have room)", "tape gap 4;" + BLANKS.substring(13)
            + " = 233", "feed 0 8 = -2", "many 4 = 233", "feed 0x20202020202020 7 = 240", "town = 0", "gap 1 = 4");
        the.sentence(2, "of several the first named: BAD, FULL", "tape " + BLANKS + " = 240", "feed 0 9 = -1",
            "feed 0 0 = -1", "feed 0 1 = -2");
        the.sentence(2, "bytes come to THE TAPE (behind those that are there)", "tape ga = 2", "tape p 1 = 5",
            "tape 9; = 7", "town = 0", "gap 1 = 19");
    }

    private static void emptyTexts() {
        the.sentence(3, "how many BALLOONS (no bytes at all)", "town = 0", "many 0 = 0");
        the.sentence(3, "{ .. } (none of them: blanks alone)", "tell " + BLANKS + " = 0", "tell   = 0", "many 0 = 0");
        the.sentence(3, "how many BALLOONS (all six)", "tell balloon 0 in 0;silk 0 in 0;leaky 0 in 0;patched 0 in 0;"
            + "chapel 0 in 0;barge 0 in 0; = 6", "balloonOf 0 0 = 0", "balloonOf 1 0 = 1", "balloonOf 2 0 = 2",
            "balloonOf 3 0 = 3", "balloonOf 4 0 = 4", "balloonOf 5 0 = 5");
        fault("{ .. ; } (a sign for none)", "^;");
        fault("{ .. ; } (a second sign)", "gap 4;^;");
        fault("{ .. ; } (no sign between)", "gap 4 ^gap 5;");
    }

    private static void balloons() {
        the.sentence(3, "A, COLUMN (the least)", "tell silk 0 in 0; = 1", "balloonOf 0 1..2 = 0");
        the.sentence(3, "A, COLUMN (the most)", "tell silk 9 in 5; = 1", "balloonOf 0 1 = 9", "balloonOf 0 2 = 5");
        fault("a NUMBER out of range (A)", "silk ^10 in 0;");
        fault("a NUMBER out of range (COLUMN)", "silk 0 in ^6;");
        fault("KIND N in N (no A)", "silk ^in 0;");
        fault("KIND N in N (no in)", "silk 0 ^0;");
        fault("KIND N in N (another NAME for in)", "silk 0 ^on 0;");
        fault("KIND N in N (no COLUMN)", "silk 0 in ^;");
        fault("KIND N in N (a NAME for COLUMN)", "silk 0 in ^gas 5;");
        fault("KIND N in N (a NUMBER more)", "silk 0 in 0 ^0;");
        the.sentence(3, "what isn't told is as at first", "tell silk 0 in 0; = 1", "balloonOf 0 3 = 0",
            "balloonOf 0 4 = 50", "balloonOf 0 5 = 100", "balloonOf 0 6 = 50", "balloonOf 0 7 = 20", "balloonOf 0 8 = 1");
    }

    private static void optionalParts() {
        String[] names = {"gas", "sand", "rope", "bread", "mouths"};
        int[] what = {5, 6, 4, 7, 8}, least = {0, 0, 1, 0, 0}, most = {999, 999, 99, 99, 9};
        for (int i = 0; i < names.length; i++) {
            String part = "silk 0 in 0 " + names[i] + " ";
            the.sentence(3, "[ " + names[i] + " N ], the least", "tell " + part + least[i] + "; = 1",
                "balloonOf 0 " + what[i] + " = " + least[i]);
            the.sentence(3, "[ " + names[i] + " N ], the most", "tell " + part + most[i] + "; = 1",
                "balloonOf 0 " + what[i] + " = " + most[i]);
            fault("a NUMBER out of range (" + names[i] + ")", part + "^" + (most[i] + 1) + ";");
            fault("[ " + names[i] + " N ], without N", part + "^;");
            fault("[ " + names[i] + " N ], once", part + "5 ^" + names[i] + " 5;");
            for (int earlier = 0; earlier < i; earlier++) {
                fault("gas, sand, rope, bread, mouths, in this order", part + "5 ^" + names[earlier] + " 5;");
            }
        }
        fault("a NUMBER out of range (rope 0)", "silk 0 in 0 rope ^0;");
        the.sentence(3, "[ gas N ] [ sand N ] [ rope N ] [ bread N ] [ mouths N ] (all)",
            "tell silk 0 in 0 gas 1 sand 2 rope 3 bread 4 mouths 5; = 1", "balloonOf 0 5 = 1", "balloonOf 0 6 = 2",
            "balloonOf 0 4 = 3", "balloonOf 0 7 = 4", "balloonOf 0 8 = 5");
        the.sentence(3, "[ gas N ] [ sand N ] .. (some)", "tell silk 0 in 0 gas 1 rope 3 mouths 5; = 1",
            "balloonOf 0 5 = 1", "balloonOf 0 6 = 50", "balloonOf 0 4 = 3", "balloonOf 0 7 = 20", "balloonOf 0 8 = 5");
        fault("can't stand there (a part of no balloon)", "^gas 5;");
        fault("can't stand there (height)", "silk 0 in 0 ^height 5;");
    }

    private static void warmths() {
        the.sentence(3, "warm: an HOUR, WARMTH 0 ..", "tell warm 0 0;warm 23 0; = 0", "warmth 0 = 100", "warmth 23 = 100");
        the.sentence(3, "warm: .. to 40", "tell warm 0 40;warm 23 40; = 0", "warmth 0 = 140", "warmth 1..22 = 100",
            "warmth 23 = 140");
        fault("a NUMBER out of range (warm 41)", "warm 0 ^41;");
        fault("a NUMBER out of range (HOUR 24)", "warm ^24 0;");
        fault("a NUMBER out of range (the first of two)", "warm ^24 41;");
        fault("warm N N (a NAME for the HOUR)", "warm ^x 1;");
        fault("warm N N (a sign for the HOUR)", "warm ^;");
        fault("warm N N (none at all)", "warm^");
        fault("cold N N (a NAME for the HOUR)", "cold ^x 1;");
        fault("warm N N (a NAME for the WARMTH)", "warm 1 ^x;");
        fault("warm N N (one alone)", "warm 0^;");
        fault("warm N N (three)", "warm 0 0 ^0;");
        the.sentence(3, "cold: an HOUR, 0 ..", "tell cold 0 0;cold 23 0; = 0", "warmth 0 = 100", "warmth 23 = 100");
        the.sentence(3, "cold: .. to 20 below 0", "tell cold 0 20;cold 23 20; = 0", "warmth 0 = 80", "warmth 1..22 = 100",
            "warmth 23 = 80");
        fault("a NUMBER out of range (cold 21)", "cold 0 ^21;");
        fault("a NUMBER out of range (HOUR 24 of cold)", "cold ^24 0;");
        fault("cold N N (one alone)", "cold 0^;");
        the.sentence(3, "WARMTH of an HOUR (told twice: the later one)", "tell warm 5 9;cold 5 8;cold 6 1;warm 6 2; = 0",
            "warmth 5 = 92", "warmth 6 = 102");
    }

    private static void gaps() {
        the.sentence(3, "gap: 1 ..", "tell gap 1; = 0", "gap 9 = 1");
        the.sentence(3, "gap: .. to 20", "tell gap 20; = 0", "gap 9 = 20");
        fault("a NUMBER out of range (gap 0)", "gap ^0;");
        fault("a NUMBER out of range (gap 21)", "gap ^21;");
        fault("gap N (no N)", "gap ^;");
        fault("gap N (two)", "gap 4 ^5;");
        the.sentence(3, "gap N (told twice: the later one)", "tell gap 20;gap 1; = 0", "gap 9 = 1");
    }

    private static void names() {
        the.sentence(3, "rows of letters a to z", "tell patched 0 in 0;barge 0 in 0; = 2");
        fault("NAMES as long as they go", "^gaps 4;");
        fault("NAMES as long as they go (a, z are letters too)", "^gapz 4;");
        fault("NAMES as long as they go (a, z are letters too)", "^agap 4;");
        fault("NAMES as long as they go (two of them in one)", "^silksilk 0 in 0;");
        fault("NAMES as long as they go (the second)", "silk 0 ^ingas 0;");
        fault("a NAME (cut short)", "^ga 4;");
        fault("a NAME (parted by a blank)", "^ga p 4;");
        fault("NAMES are of letters a to z (a great one)", "^Gap 4;");
        fault("NAMES are of letters a to z (a great one behind)", "^gaP 4;");
        fault("a NAME that can't stand there", "^in 4;");
    }

    private static void numbers() {
        the.sentence(3, "rows of digits (1 to 3)", "tell gap 4; = 0", "gap 1 = 4", "tell gap 04; = 0", "gap 1 = 4",
            "tell gap 004; = 0", "gap 1 = 4");
        fault("a NUMBER of more digits", "gap ^0004;");
        fault("a NUMBER of more digits (in range by three of them)", "silk 0 in 0 gas ^1234;");
        fault("a NUMBER of more digits (far more)", "gap ^" + "0".repeat(200) + "4;");
        fault("a NUMBER of more digits (as an int it would wrap)", "gap ^4294967300;");
        fault("NUMBERS as long as they go", "warm ^99;");
        fault("NUMBERS as long as they go (one, not two)", "warm 12^;");
        fault("NUMBERS as long as they go (up to a letter)", "gap 4^x;");
        fault("NUMBERS as long as they go (0, 9 are digits too)", "gap ^0099;");
        fault("a NUMBER where a NAME must stand", "^4 gap;");
        fault("a NUMBER below 0", "gap ^-4;");
    }

    private static void blanks() {
        the.sentence(3, "blanks stand elsewhere as one likes", "tell    silk   1   in   2   gas   3   ;   gap  4  ;   = 1",
            "balloonOf 0 1 = 1", "balloonOf 0 2 = 2", "balloonOf 0 5 = 3", "gap 1 = 4");
        the.sentence(3, "blanks part them (none is needed where nothing is to be parted)", "tell silk1in2gas3;gap4; = 1",
            "balloonOf 0 1 = 1", "balloonOf 0 2 = 2", "balloonOf 0 5 = 3", "gap 1 = 4");
        fault("blanks part them (two NUMBERS)", "gap 1 ^2;");
        fault("blanks (32): no other byte is one (9)", "gap^\t4;");
        fault("blanks (32): no other byte is one (10)", "gap 4;^\n");
        fault("blanks (32): no other byte is one (0)", "gap 4;^\0");
        fault("blanks (32): no other byte is one (160)", "gap 4;^" + (char) 160);
    }

    private static void otherBytes() {
        fault("other byte (next below a)", "gap 4;^`");
        fault("other byte (next above z)", "gap 4;^{");
        fault("other byte (next below 0)", "gap ^/;");
        fault("other byte (next above 9)", "gap ^:;");
        fault("other byte (255)", "^" + (char) 255);
        fault("other byte (128 more than a sign)", "gap 4^" + (char) (';' + 128));
        fault("other byte (128 more than a letter)", "^" + (char) ('g' + 128) + "ap 4;");
        fault("other byte (128 more than a digit)", "gap ^" + (char) ('4' + 128) + ";");
        fault("the first byte that can't stand there (behind a NAME)", "gap^, 4;");
        fault("the first byte that can't stand there (behind a NUMBER)", "gap 4^,;");
    }

    private static void seventh() {
        String six = "silk 0 in 0;".repeat(6);
        the.sentence(3, "six BALLOONS", "tell " + six + "gap 4; = 6", "gap 1 = 4");
        fault("the first NAME of a seventh BALLOON", six + "^silk 0 in 0;");
        fault("the first NAME of a seventh BALLOON (though it goes wrong behind it)", six + "gap 4; ^barge 99");
        fault("the first NAME of a seventh BALLOON (no other fault ahead of it)", six + "^chapel");
    }

    private static void ends() {
        fault("the end, if more must come (behind a NAME)", "gap^");
        fault("the end, if more must come (behind a NUMBER)", "gap 4^");
        fault("the end, if more must come (behind in)", "silk 0 in^");
        fault("the end, if more must come (behind A)", "silk 0^");
        fault("the end, if more must come (behind COLUMN)", "silk 0 in 0^");
        fault("the end, if more must come (behind gas)", "silk 0 in 0 gas^");
        fault("the end, if more must come (behind mouths)", "silk 0 in 0 mouths 1^");
        fault("the end, if more must come (behind the HOUR)", "warm 0^");
        fault("the end (how many bytes there are: blanks too)", "gap 4   ^");
        fault("the end, if more must come (behind others)", "gap 4;silk^");
        fault("of several the first", "gap ^21;gap 0;silk");
    }

    private static void fullTape() {
        String gaps = "gap 4;".repeat(40);
        the.sentence(3, "THE TAPE takes bytes, 240 at most (all told)", "tape " + gaps + " = 240", "town = 0", "gap 1 = 4");
        fault("the end (240)", gaps.substring(0, 239) + " ^");
        fault("of 240 bytes the last", gaps.substring(0, 239) + "^,");
        fault("of 240 bytes the first", "^" + "z".repeat(240));
    }

    private static void whatItBecomes() {
        the.sentence(3, "It is the town by it alone (WARMTHS 0, GAP 3, if not told; NOW 0)", "balloon 1 1 1 = 0",
            "balloon 1 1 1 = 1", "warm 0 9 = 100", "warm 23 9 = 100", "gap 9 = 3", "clock 96 = 0", "tell silk 0 in 0; = 1",
            "many 0 = 1", "balloonOf 1 0 = -1", "warmth 0..23 = 100", "gap 1 = 3", "many 2 = 0");
        the.sentence(3, "It is the town by it alone (not by the TEXT before)",
            "tell warm 0 9;cold 23 9;warm 5 9;gap 9;silk 9 in 5 gas 1 sand 2 rope 3 bread 4 mouths 5; = 1",
            "tell balloon 0 in 0; = 1", "warmth 0..23 = 100", "gap 3 = 3", "many 0 = 1", "balloonOf 0 0..3 = 0",
            "balloonOf 0 4 = 50", "balloonOf 0 5 = 100", "balloonOf 0 6 = 50", "balloonOf 0 7 = 20", "balloonOf 0 8 = 1");
        the.sentence(3, "It is the town by it alone (not by a TEXT with a FAULT)", "tell warm 0 9;gap 9;silk 9 in 5;gap 0; = -131",
            "tell balloon 0 in 0; = 1", "warmth 0..23 = 100", "gap 3 = 3", "balloonOf 0 0..2 = 0");
        the.sentence(3, "z stays", "seed 77 = 1", "tell silk 0 in 0; = 1", "seed 1 = 77");
        the.sentence(3, "There are no ROWS then", "balloon 0 0 0 = 0", "prove 0 5 = 5", "tell silk 0 in 0; = 1",
            "many 3 = 0", "row 0 0 = -9", "judge 0 = 0");
        the.sentence(3, "There are no ROWS then (of an empty TEXT)", "balloon 0 0 0 = 0", "prove 0 5 = 5", "town = 0",
            "many 3 = 0");
        the.sentence(3, "town() uses it up", "tape gap 4; = 6", "town = 0", "many 4 = 0", "town = 0", "gap 9 = 3");
        the.sentence(3, "THE TAPE becomes the town (SHEETS, THE TRACE and what is kept stay)", "balloon 0 0 0 = 0",
            "keep = 1", "sheet 0 0 5 = 1", "shelf 0 1 0 = 1", "shelf 1 0 0 = 1", "act 1 0 5 = 5", "town = 0",
            "item 0 0 4 = 0", "taken 0 10 = 5", "trace 0 = 10", "again = 0", "many 0 = 1");
    }

    private static void refused() {
        the.sentence(3, "such a call changes nothing (a FAULT)", "balloon 1 2 3 = 0", "warm 5 9 = 100", "gap 9 = 3",
            "clock 7 = 0", "seed 77 = 1", "tell warm 5 1;gap 1;barge 0 in 0;silk 0 in 0 = -139", "many 0 = 1",
            "balloonOf 0 0 = 1", "balloonOf 0 1 = 2", "balloonOf 0 2 = 3", "warmth 5 = 109", "gap 1 = 9", "many 2 = 7",
            "seed 1 = 77");
        the.sentence(3, "but that THE TAPE is used up by town()", "tape gap 21; = 7", "town = -104", "many 4 = 0",
            "town = 0", "tell gap 5; = 0", "gap 1 = 5");
        the.sentence(3, "such a call changes nothing (ROWS stay)", "balloon 0 0 0 = 0", "prove 0 5 = 5", "tell gap; = -103",
            "many 3 = 5", "row 4 0 = 33");
        the.sentence(3, "-100 less its FAULT", "tell ; = -100", "tell gap = -103", "tell " + BLANKS.substring(1) + "; = -339");
    }
}
