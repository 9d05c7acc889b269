/** Promises 30 to 44: a test of its own for each sentence of the document that names an edge. */
public final class HostSentencesTest {
    private static final Sentences the = new Sentences();
    private static final String[] SORTS = {"bytes", "shorts", "ints", "longs"};

    public static void main(String[] args) {
        prove();
        row();
        alterRow();
        judge();
        warms();
        warmsWhere();
        sheet();
        put();
        item();
        shelf();
        shelvesLater();
        taken();
        takenKinds();
        act();
        actWraps();
        actPartedBy0();
        trace();
        many();
        keep();
        again();
        the.end(30, 44);
    }

    private static void prove() {
        String one = "tell leaky 0 in 0; = 1";
        the.sentence(30, "n (1 ..)", one, "prove 0 2 = 2", "prove 0 0 = -1", "prove 0 -1 = -1", "prove 0 MIN = -1",
            "many 3 = 2", "prove 0 1 = 1", "many 3 = 1");
        the.sentence(30, "n (.. to 20)", one, "prove 0 2 = 2", "prove 0 21 = -1", "prove 0 MAX = -1", "many 3 = 2",
            "prove 0 20 = 20", "many 3 = 20", "row 19 1 = 60", "row 20 1 = -9");
        the.sentence(30, "as far as there are such", one, "clock 76 = 0", "prove 0 20 = 20", "clock 77 = 76",
            "prove 0 20 = 19", "row 19 0 = -9", "clock 95 = 77", "prove 0 20 = 1", "prove 0 1 = 1", "clock 96 = 95",
            "prove 0 20 = 0", "many 3 = 0", "row 0 0 = -9");
        the.sentence(30, "behind each of the next n HOURS (from the first on)", "tell silk 0 in 0;silk 0 in 0; = 2",
            "becomes 1 2 1 = 0", "prove 0 1 = 1", "row 0 0 = 10", "row 0 1 = 100", "row 0 2 = 0", "becomes 1 2 0 = 1",
            "prove 0 1 = 1", "row 0 2 = 1");
        the.sentence(30, "GAS (0 at least)", "tell leaky 0 in 0 gas 3; = 1", "prove 0 3 = 3", "row 0 1 = 1", "row 1 1 = 0",
            "row 2 1 = 0");
        the.sentence(30, "with how many it TOUCHES (five)", "tell silk 0 in 0;silk 0 in 0;silk 0 in 0;silk 0 in 0;"
            + "silk 0 in 0;silk 0 in 0; = 6", "prove 3 1 = 1", "row 0 2 = 5");
        the.sentence(30, "nothing changes", one, "prove 0 20 = 20", "balloonOf 0 3 = 0", "balloonOf 0 5 = 100", "many 2 = 0");
        the.sentence(30, "BAD: there is no such BALLOON", "prove 0 1 = -1", one, "prove 0 2 = 2", "prove 1 1 = -1",
            "prove -1 1 = -1", "prove MIN 1 = -1", "prove MAX 1 = -1", "many 3 = 2");
    }

    private static void row() {
        String one = "balloon 0 0 0 = 0";
        the.sentence(31, "-9: there is none such", one, "row 0 0 = -9", "prove 0 3 = 3", "row 0 0 = 10", "row 2 0 = 30",
            "row 3 0 = -9", "row -1 0 = -9", "row MIN 0 = -9", "row MAX 0 = -9", "row 19 0 = -9", "row 20 0 = -9");
        the.sentence(31, "-9: another what", one, "prove 0 3 = 3", "row 0 -1 = -9", "row 0 3 = -9", "row 0 MIN = -9",
            "row 0 MAX = -9", "row 0 2 = 0");
        the.sentence(31, "-9 (ROWS that were once)", one, "prove 0 3 = 3", "row 2 0 = 30", "prove 0 2 = 2", "row 2 0 = -9");
    }

    private static void alterRow() {
        String one = "balloon 0 0 0 = 0";
        the.sentence(32, "-9 likewise (none such)", one, "alterRow 0 0 5 = -9", "prove 0 3 = 3", "alterRow 3 0 5 = -9",
            "alterRow -1 0 5 = -9", "alterRow MIN 0 5 = -9", "alterRow MAX 0 5 = -9", "judge 0 = 0", "alterRow 2 0 5 = 30");
        the.sentence(32, "-9 likewise (another what)", one, "prove 0 3 = 3", "alterRow 0 -1 5 = -9", "alterRow 0 3 5 = -9",
            "alterRow 0 MIN 5 = -9", "alterRow 0 MAX 5 = -9", "judge 0 = 0", "alterRow 0 2 5 = 0", "row 0 2 = 5");
        the.sentence(32, "It becomes v: what it was (any int)", one, "prove 0 3 = 3", "alterRow 1 1 MIN = 100",
            "row 1 1 = -2147483648", "alterRow 1 1 MAX = -2147483648", "row 1 1 = 2147483647", "alterRow 1 1 -9 = 2147483647",
            "row 1 1 = -9", "alterRow 1 1 100 = -9", "row 0..2 1 = 100");
    }

    private static void judge() {
        String one = "tell leaky 0 in 0; = 1";
        the.sentence(33, "0 all is right (also if there are none)", one, "judge 0 = 0", "clock 96 = 0", "judge 0 = 0");
        the.sentence(33, "else the first ROW that isn't, and 1 more (the first)", one, "prove 0 20 = 20", "judge 0 = 0",
            "alterRow 0 0 11 = 10", "judge 0 = 1", "alterRow 9 0 0 = 20", "judge 0 = 1", "alterRow 0 0 10 = 11",
            "judge 0 = 10");
        the.sentence(33, "else the first ROW that isn't, and 1 more (the last)", one, "prove 0 20 = 20",
            "alterRow 19 1 61 = 60", "judge 0 = 20", "alterRow 19 1 60 = 61", "judge 0 = 0");
        the.sentence(33, "right is one that is as it must be (of all three)", one, "prove 0 2 = 2", "alterRow 1 0 21 = 20",
            "judge 0 = 2", "alterRow 1 0 20 = 21", "alterRow 1 1 95 = 96", "judge 0 = 2", "alterRow 1 1 96 = 95",
            "alterRow 1 2 1 = 0", "judge 0 = 2", "alterRow 1 2 0 = 1", "judge 0 = 0");
        the.sentence(33, "rows behind NOW 96 are wrong", "tell balloon 0 in 0 gas 999; = 1", "becomes 0 3 50 = 0",
            "prove 0 20 = 20", "clock 76 = 0", "judge 0 = 0", "clock 77 = 76", "judge 0 = 20", "clock 95 = 77",
            "judge 0 = 2", "clock 96 = 95", "judge 0 = 1");
        the.sentence(33, "from now on", one, "prove 0 3 = 3", "hours 1 = 1", "judge 0 = 1");
        the.sentence(33, "as those of a BALLOON (of any)", "tell silk 0 in 0;silk 0 in 1;leaky 0 in 2; = 3",
            "prove 0 5 = 5", "judge 1 = 0", "judge 2 = 1", "becomes 1 3 1 = 0", "judge 1 = 1");
        the.sentence(33, "nothing changes", one, "prove 0 3 = 3", "alterRow 0 0 5 = 10", "judge 0 = 1", "row 0 0 = 5",
            "balloonOf 0 3 = 0", "many 2 = 0", "many 3 = 3");
        the.sentence(33, "BAD: there is no such BALLOON (also if there are no ROWS)", "judge 0 = -1", one, "judge 1 = -1",
            "judge -1 = -1", "judge MIN = -1", "judge MAX = -1");
    }

    private static void warms() {
        String bytes = "sheet 0 0 40 = 1";
        the.sentence(34, "n (0 ..)", bytes, "put 0 0 9 = 1", "warms 0 0 5 -1 = -1", "warms 0 0 5 MIN = -1",
            "warms 0 0 5 0 = 0", "warmth 0..23 = 100", "warms 0 0 5 1 = 1", "warmth 5 = 109");
        the.sentence(34, "n (0 ..; BAD ahead of all that the host refuses)", bytes, "warms 0 MAX 5 -1 = -1",
            "warms 0 -1 5 -1 = -1", "warms 1 0 5 -1 = -1", "sheet 1 1 5 = 1", "warms 1 0 5 -1 = -1");
        the.sentence(34, "n (.. to 24)", bytes, "warms 0 0 0 25 = -1", "warms 0 0 0 MAX = -1", "warm 0 9 = 100",
            "warm 23 9 = 100", "warms 0 0 0 24 = 24", "warmth 0..23 = 100");
        the.sentence(34, "BAD: n goes beyond HOUR 23", bytes, "warms 0 0 23 2 = -1", "warms 0 0 1 24 = -1",
            "warms 0 0 12 13 = -1", "warms 0 0 23 1 = 1", "warms 0 0 12 12 = 12", "warms 0 0 23 0 = 0");
        the.sentence(34, "BAD: no such HOUR", bytes, "warms 0 0 -1 1 = -1", "warms 0 0 24 0 = -1", "warms 0 0 24 1 = -1",
            "warms 0 0 MIN 1 = -1", "warms 0 0 MAX 1 = -1");
        the.sentence(34, "BAD: no such SHEET", bytes, "warms -1 0 0 0 = -1", "warms 4 0 0 0 = -1", "warms MIN 0 0 0 = -1",
            "warms MAX 0 0 0 = -1");
        the.sentence(34, "held to -20 ..", bytes, "put 0 0 -19 = 1", "put 0 1 -20 = 1", "put 0 2 -21 = 1", "put 0 3 -128 = 1",
            "warms 0 0 0 4 = 4", "warmth 0 = 81", "warmth 1..3 = 80", "warmth 4 = 100");
        the.sentence(34, "held .. to 40", bytes, "put 0 0 39 = 1", "put 0 1 40 = 1", "put 0 2 41 = 1", "put 0 3 127 = 1",
            "warms 0 0 0 4 = 4", "warmth 0 = 139", "warmth 1..3 = 140", "warmth 4 = 100");
    }

    private static void warmsWhere() {
        String[] rows = {"sheet 0 0 6 = 1", "sheet 1 1 6 = 1", "sheet 2 2 6 = 1", "sheet 3 3 6 = 1"};
        the.sentence(34, "from i on", rows[0], "put 0 4 4 = 1", "put 0 5 5 = 1", "warms 0 4 22 2 = 2", "warmth 22 = 104",
            "warmth 23 = 105", "warmth 21 = 100");
        the.sentence(34, "-12: a place outside (behind the last)", rows[0], "warms 0 0 0 6 = 6", "warms 0 0 0 7 = -12",
            "warms 0 1 0 6 = -12", "warms 0 5 0 1 = 1", "warms 0 6 0 1 = -12", "warms 0 MAX 0 1 = -12",
            "warms 0 MAX 0 24 = -12");
        the.sentence(34, "-12: a place outside (below 0)", rows[0], "warms 0 -1 0 1 = -12", "warms 0 -1 0 0 = -12",
            "warms 0 MIN 0 24 = -12");
        the.sentence(34, "-12: a place outside (no numbers: up to the end)", rows[0], "warms 0 6 0 0 = 0",
            "warms 0 7 0 0 = -12", "warms 0 MAX 0 0 = -12", "sheet 0 0 0 = 1", "warms 0 0 0 0 = 0", "warms 0 0 0 1 = -12");
        the.sentence(34, "-11: nothing where something is asked", "warms 0 0 0 1 = -11", "warms 0 -1 0 0 = -11", rows[0],
            "warms 0 0 0 1 = 1", "sheet 0 -1 0 = 1", "warms 0 0 0 1 = -11");
        the.sentence(34, "-13: a SHEET taken for bytes", rows[1], rows[2], rows[3], "warms 1..3 0 0 1 = -13",
            "warms 1..3 0 0 0 = -13");
        the.sentence(34, "-13; -12", rows[1], "warms 1 6 0 1 = -13", "warms 1 -1 0 1 = -13");
        the.sentence(34, "of several the first named: BAD, -11, -13, -12", rows[0], rows[1], "warms 2 0 24 1 = -1",
            "warms 2 0 0 25 = -1", "warms 1 0 24 1 = -1", "warms 0 9 24 1 = -1", "warms 0 9 23 2 = -1");
        the.sentence(34, "such a call changes nothing", rows[0], "put 0 0 9 = 1", "warms 0 0 0 7 = -12", "warms 0 0 23 2 = -1",
            "warmth 0..23 = 100");
    }

    private static void sheet() {
        for (int sort = 0; sort < 4; sort++) {
            the.sentence(35, "a row of n of a sort, 40 at most (" + SORTS[sort] + ")", "sheet 3 " + sort + " 41 = -1",
                "sheet 3 " + sort + " MAX = -1", "item 3 " + sort + " 0 = -11", "sheet 3 " + sort + " 40 = 1",
                "item 3 " + sort + " 39 = 0", "item 3 " + sort + " 40 = -12");
            the.sentence(35, "a row of n of a sort (none of them: " + SORTS[sort] + ")", "sheet 0 " + sort + " 0 = 1",
                "item 0 " + sort + " 0 = -12", "put 0 0 1 = -12");
            the.sentence(35, "-14: a size below 0 (" + SORTS[sort] + ")", "sheet 0 " + sort + " 2 = 1",
                "sheet 0 " + sort + " -1 = -14", "sheet 0 " + sort + " MIN = -14", "item 0 " + sort + " 1 = 0");
        }
        the.sentence(35, "all 0 (as often as it becomes one)", "sheet 0 2 3 = 1", "put 0 0 5 = 1", "put 0 2 7 = 1",
            "sheet 0 2 3 = 1", "item 0 2 0..2 = 0", "put 0 2 7 = 1", "sheet 0 2 1 = 1", "sheet 0 2 3 = 1",
            "item 0 2 0..2 = 0");
        the.sentence(35, "or missing (sort -1; n counts nothing then)", "sheet 0 2 3 = 1", "sheet 0 -1 41 = 1",
            "item 0 2 0 = -11", "sheet 0 2 3 = 1", "sheet 0 -1 -1 = 1", "item 0 2 0 = -11", "sheet 0 -1 MIN = 1",
            "sheet 0 -1 MAX = 1", "sheet 0 -1 0 = 1");
        the.sentence(35, "BAD: no such SHEET", "sheet -1 0 1 = -1", "sheet 4 0 1 = -1", "sheet MIN 0 1 = -1",
            "sheet MAX 0 1 = -1", "sheet 4 -1 0 = -1", "sheet 0 0 1 = 1", "sheet 3 0 1 = 1");
        the.sentence(35, "BAD: no such sort", "sheet 0 -2 1 = -1", "sheet 0 4 1 = -1", "sheet 0 MIN 1 = -1",
            "sheet 0 MAX 1 = -1", "item 0 0..3 0 = -11");
        the.sentence(35, "of several the first named: BAD, -14", "sheet 4 0 -1 = -1", "sheet 0 4 -1 = -1",
            "sheet 0 -2 -1 = -1");
        the.sentence(35, "such a call changes nothing", "sheet 0 2 3 = 1", "put 0 1 5 = 1", "sheet 0 2 41 = -1",
            "sheet 0 2 -1 = -14", "sheet 0 4 1 = -1", "item 0 2 1 = 5", "item 0 2 2 = 0");
    }

    private static void put() {
        the.sentence(36, "narrowed to its sort (bytes)", "sheet 0 0 1 = 1", "put 0 0 127 = 1", "item 0 0 0 = 127",
            "put 0 0 128 = 1", "item 0 0 0 = -128", "put 0 0 -128 = 1", "item 0 0 0 = -128", "put 0 0 -129 = 1",
            "item 0 0 0 = 127", "put 0 0 256 = 1", "item 0 0 0 = 0", "put 0 0 MAX = 1", "item 0 0 0 = -1", "put 0 0 MIN = 1",
            "item 0 0 0 = 0");
        the.sentence(36, "narrowed to its sort (shorts)", "sheet 0 1 1 = 1", "put 0 0 32767 = 1", "item 0 1 0 = 32767",
            "put 0 0 32768 = 1", "item 0 1 0 = -32768", "put 0 0 -32768 = 1", "item 0 1 0 = -32768", "put 0 0 -32769 = 1",
            "item 0 1 0 = 32767", "put 0 0 65536 = 1", "item 0 1 0 = 0", "put 0 0 MAX = 1", "item 0 1 0 = -1",
            "put 0 0 MIN = 1", "item 0 1 0 = 0");
        the.sentence(36, "narrowed to its sort (ints and longs have room)", "sheet 0 2 1 = 1", "sheet 1 3 1 = 1",
            "put 0..1 0 MAX = 1", "item 0 2 0 = 2147483647", "item 1 3 0 = 2147483647", "put 0..1 0 MIN = 1",
            "item 0 2 0 = -2147483648", "item 1 3 0 = -2147483648");
        the.sentence(36, "-12: a place outside", "sheet 0 2 3 = 1", "put 0 -1 7 = -12", "put 0 3 7 = -12", "put 0 MIN 7 = -12",
            "put 0 MAX 7 = -12", "put 0 39 7 = -12", "item 0 2 0..2 = 0", "put 0 0 7 = 1", "put 0 2 8 = 1", "item 0 2 0 = 7",
            "item 0 2 1 = 0", "item 0 2 2 = 8");
        the.sentence(36, "-11: nothing where something is asked", "put 0 0 7 = -11", "sheet 0 2 3 = 1", "put 0 0 7 = 1",
            "sheet 0 -1 0 = 1", "put 0 0 7 = -11");
        the.sentence(36, "BAD: no such SHEET", "put -1 0 7 = -1", "put 4 0 7 = -1", "put MIN 0 7 = -1", "put MAX 0 7 = -1");
        the.sentence(36, "of several the first named: BAD, -11, -12", "put 4 -1 7 = -1", "put 0 -1 7 = -11", "put 0 40 7 = -11");
    }

    private static void item() {
        for (int sort = 0; sort < 4; sort++) {
            String[] rows = new String[8];
            rows[0] = "sheet 0 " + sort + " 2 = 1";
            rows[1] = "put 0 1 7 = 1";
            for (int as = 0; as < 4; as++) {
                rows[2 + as] = "item 0 " + as + " 1 = " + (as == sort ? "7" : "-13");
            }
            rows[6] = "item 0 " + (3 - sort) + " 2 = -13";
            rows[7] = "item 0 " + sort + " 2 = -12";
            the.sentence(37, "taken for a sort: -11; -13; -12 (" + SORTS[sort] + ")", rows);
        }
        the.sentence(37, "-12: a place outside", "sheet 0 2 3 = 1", "item 0 2 -1 = -12", "item 0 2 3 = -12",
            "item 0 2 MIN = -12", "item 0 2 MAX = -12", "item 0 2 0 = 0", "item 0 2 2 = 0");
        the.sentence(37, "-12: a place outside (of what was a longer row)", "sheet 0 2 5 = 1", "put 0 4 7 = 1",
            "sheet 0 2 4 = 1", "item 0 2 4 = -12", "put 0 4 7 = -12");
        the.sentence(37, "-11: nothing where something is asked", "item 0 0 0 = -11", "sheet 0 0 1 = 1", "item 0 0 0 = 0",
            "sheet 0 -1 0 = 1", "item 0 0 0 = -11");
        the.sentence(37, "BAD: no such SHEET", "item -1 0 0 = -1", "item 4 0 0 = -1", "item MIN 0 0 = -1", "item MAX 0 0 = -1");
        the.sentence(37, "BAD: no such sort (0 to 3)", "sheet 0 0 1 = 1", "item 0 -1 0 = -1", "item 0 4 0 = -1",
            "item 0 MIN 0 = -1", "item 0 MAX 0 = -1");
        the.sentence(37, "of several the first named: BAD, -11, -13", "item 0 4 0 = -1", "item 4 0 -1 = -1",
            "item 0 0 -1 = -11");
        the.sentence(37, "of longs the lowest 32 bits", "sheet 0 3 1 = 1", "put 0 0 -1 = 1", "item 0 3 0 = -1",
            "put 0 0 MIN = 1", "item 0 3 0 = -2147483648");
        the.sentence(37, "An item may be as low as these, too", "sheet 0 0 5 = 1", "put 0 0 -1 = 1", "put 0 1 -11 = 1",
            "put 0 2 -12 = 1", "put 0 3 -13 = 1", "item 0 0 0 = -1", "item 0 0 1 = -11", "item 0 0 2 = -12",
            "item 0 0 3 = -13");
    }

    private static void shelf() {
        String[] two = {"tell silk 0 in 0;leaky 0 in 0; = 2"};
        the.sentence(38, "BAD: no such SHELF", two[0], "shelf -1 0 0 = -1", "shelf 4 0 0 = -1", "shelf MIN 0 0 = -1",
            "shelf MAX 0 0 = -1", "shelf 4 1 0 = -1", "shelf -1 2 0 = -1", "taken 0..3 0 = -11", "shelf 0 0 0 = 1",
            "shelf 3 0 1 = 1", "taken 0 0 = 0", "taken 3 0 = 1");
        the.sentence(38, "BAD: no such what", two[0], "shelf 0 -1 0 = -1", "shelf 0 3 0 = -1", "shelf 0 MIN 0 = -1",
            "shelf 0 MAX 0 = -1", "taken 0 0 = -11");
        the.sentence(38, "BAD: no such thing (a BALLOON)", "shelf 0 0 0 = -1", two[0], "shelf 0 0 2 = -1", "shelf 0 0 -1 = -1",
            "shelf 0 0 MIN = -1", "shelf 0 0 MAX = -1", "taken 0 0 = -11", "shelf 0 0 1 = 1", "taken 0 0 = 1");
        the.sentence(38, "BAD: no such thing (a SHEET)", "shelf 0 1 -1 = -1", "shelf 0 1 4 = -1", "shelf 0 1 MIN = -1",
            "shelf 0 1 MAX = -1", "sheet 3 0 5 = 1", "shelf 0 1 3 = 1", "taken 0 10 = 5");
        the.sentence(38, "nothing, if missing", two[0], "shelf 0 0 0 = 1", "shelf 0 1 2 = 1", "taken 0 0 = -11",
            "taken 0 10..13 = -11", "sheet 2 0 5 = 1", "taken 0 10 = -11");
        the.sentence(38, "nothing (2), whatever n is", two[0], "shelf 0 0 0 = 1", "shelf 0 2 -1 = 1", "taken 0 0 = -11",
            "shelf 0 2 MAX = 1", "shelf 0 2 MIN = 1", "shelf 0 2 0 = 1");
        the.sentence(38, "such a call changes nothing", two[0], "shelf 0 0 1 = 1", "shelf 0 0 2 = -1", "shelf 0 1 4 = -1",
            "shelf 0 3 0 = -1", "taken 0 0 = 1");
    }

    private static void shelvesLater() {
        the.sentence(38, "a BALLOON (by its number; nothing, if there is no such one any more)",
            "tell silk 0 in 0;leaky 3 in 0; = 2", "shelf 0 0 1 = 1", "taken 0 2 = 1", "tell silk 0 in 0; = 1", "taken 0 0 = -11",
            "act 0 0 5 = 0", "balloon 5 9 0 = 1", "taken 0 5 = 1", "act 0 0 5 = 6");
        the.sentence(38, "a BALLOON (nothing, if it went by again())", "balloon 0 0 0 = 0", "keep = 1", "balloon 0 0 0 = 1",
            "shelf 0 0 1 = 1", "shelf 1 0 0 = 1", "again = 0", "taken 0 0 = -11", "taken 1 0 = 0");
        the.sentence(38, "a SHEET's row (that it had)", "sheet 0 1 7 = 1", "shelf 0 1 0 = 1", "sheet 0 2 3 = 1",
            "taken 0 11 = 7", "taken 0 12 = -13", "sheet 0 -1 0 = 1", "taken 0 11 = 7", "shelf 0 1 0 = 1", "taken 0 11 = -11");
    }

    private static void taken() {
        String one = "balloon 0 0 0 = 0";
        the.sentence(39, "BAD: no such SHELF", one, "taken -1 0 = -1", "taken 4 0 = -1", "taken MIN 0 = -1", "taken MAX 0 = -1",
            "taken 4 10 = -1");
        the.sentence(39, "BAD: no such as (0 to 5, 10 to 13)", one, "shelf 0 0 0 = 1", "taken 0 -1 = -1", "taken 0 6..9 = -1",
            "taken 0 14 = -1", "taken 0 MIN = -1", "taken 0 MAX = -1", "taken 0 0 = 0", "taken 0 5 = -13", "taken 0 10 = -13",
            "taken 0 13 = -13");
        the.sentence(39, "of several the first named: BAD, -11", "taken 0 6 = -1", "taken 0 9 = -1", "taken 0 14 = -1",
            "taken 0 5 = -11", "taken 0 10 = -11");
        the.sentence(39, "-11: nothing where something is asked", one, "taken 0 0..5 = -11", "taken 0 10..13 = -11",
            "shelf 0 0 0 = 1", "taken 0 0 = 0", "shelf 0 2 0 = 1", "taken 0 0 = -11");
        for (int sort = 0; sort < 4; sort++) {
            String[] rows = new String[8];
            rows[0] = "sheet 1 " + sort + " 40 = 1";
            rows[1] = "shelf 2 1 1 = 1";
            for (int as = 0; as < 4; as++) {
                rows[2 + as] = "taken 2 " + (10 + as) + " = " + (as == sort ? "40" : "-13");
            }
            rows[6] = "taken 2 0..5 = -13";
            rows[7] = "act 2 0 5 = 0";
            the.sentence(39, "for a row of sort as - 10; -13: a thing of another sort (" + SORTS[sort] + ")", rows);
        }
        the.sentence(39, "how many items (none of them)", "sheet 1 3 0 = 1", "shelf 2 1 1 = 1", "taken 2 13 = 0",
            "taken 2 12 = -13");
    }

    private static void takenKinds() {
        int[][] is = {{0}, {0, 1}, {0, 2}, {0, 2, 3}, {0, 1, 4}, {0, 5}};
        for (int kind = 0; kind < 6; kind++) {
            String[] rows = new String[14];
            rows[0] = "balloon 0 0 0 = 0";
            rows[1] = "balloon " + kind + " 0 0 = 1";
            rows[2] = "shelf 3 0 1 = 1";
            rows[3] = "many 0 = 2";
            for (int as = 0; as < 6; as++) {
                boolean right = false;
                for (int one : is[kind]) {
                    right |= one == as;
                }
                rows[4 + as] = "taken 3 " + as + " = " + (right ? "1" : "-13");
            }
            for (int as = 10; as < 14; as++) {
                rows[as] = "taken 3 " + as + " = -13";
            }
            the.sentence(39, "a thing of KIND as, or one under it; -13: of another kind (KIND " + kind + ")", rows);
        }
        the.sentence(39, "A BALLOON is held as a thing of its KIND (that it has now)", "balloon 0 0 0 = 0", "shelf 0 0 0 = 1",
            "taken 0 3 = -13", "mind 0 3 0 = 0", "taken 0 3 = 0", "taken 0 2 = 0", "mind 0 5 0 = 3", "taken 0 3 = -13");
    }

    private static void act() {
        String[] one = {"balloon 0 7 0 = 0", "shelf 0 0 0 = 1"};
        the.sentence(40, "0, and no TRACE then: no such SHELF", one[0], one[1], "act 0 1 5 = 10", "many 5 = 2", "act -1 1 5 = 0",
            "many 5 = 0", "trace 0 = -3", "act 0 0 5 = 5", "act 4 0 5 = 0", "trace 0 = -3", "act 0 0 5 = 5", "act MIN 0 5 = 0",
            "act MAX 0 5 = 0", "many 5 = 0");
        the.sentence(40, "0, and no TRACE then: no such act", one[0], one[1], "act 0 1 5 = 10", "act 0 -1 5 = 0", "many 5 = 0",
            "act 0 3 5 = 13", "act 0 4 5 = 0", "many 5 = 0", "act 0 3 5 = 13", "act 0 MIN 5 = 0", "act 0 MAX 5 = 0",
            "trace 0 = -3");
        the.sentence(40, "0, and no TRACE then: nothing", one[0], one[1], "act 0 1 5 = 10", "act 1 1 5 = 0", "many 5 = 0",
            "act 0 1 5 = 10", "shelf 0 2 0 = 1", "many 5 = 2", "act 0 1 5 = 0", "many 5 = 0");
        the.sentence(40, "0, and no TRACE then: a row", one[0], one[1], "sheet 0 2 5 = 1", "shelf 1 1 0 = 1", "act 0 1 5 = 10",
            "act 1 1 5 = 0", "many 5 = 0", "trace 0 = -3");
        the.sentence(40, "An ACT (0 to 3)", one[0], one[1], "act 0 0 21 = 21", "act 0 1 21 = 42", "act 0 2 21 = 3",
            "act 0 3 21 = 45");
        the.sentence(40, "n: its number, a: its A (9, and the last of six)", "tell barge 9 in 0;barge 9 in 0;barge 9 in 0;"
            + "barge 9 in 0;barge 9 in 0;barge 9 in 0; = 6", "shelf 0 0 5 = 1", "act 0 0 1 = 6", "act 0 2 9 = 16",
            "act 0 3 0 = 6");
        the.sentence(40, "Quotients are cut towards 0", one[0], one[1], "act 0 2 6 = 0", "act 0 2 -6 = 0", "act 0 2 -8 = -1",
            "act 0 2 -14 = -2", "act 0 2 13 = 1");
    }

    private static void actWraps() {
        String[] with = {"balloon 0 0 0 = 0", "balloon 0 0 0 = 1", "shelf 0 0 1 = 1"};
        the.sentence(40, "ints that wrap (lifts, sinks, tells)", with[0], with[1], with[2], "act 0 0 MAX = -2147483648",
            "act 0 1 MAX = 0", "act 0 1 1073741823 = -2147483648", "act 0 3 1073741823 = -2147483648", "act 0 0 MIN = -2147483647");
        the.sentence(40, "ints that wrap (the least by -1)", with[0], with[1], with[2], "act 0 2 MIN = -2147483648",
            "act 0 2 MAX = -2147483647", "act 0 2 -1 = 1");
        the.sentence(40, "ints that wrap (leaky: times 3)", with[0], with[1], with[2], "mind 1 2 0 = 0",
            "act 0 0 MAX = -2147483648", "act 0 0 715827882 = -2147483647", "act 0 3 MAX = -1");
        the.sentence(40, "ints that wrap (patched: 0 - the least)", with[0], with[1], with[2], "mind 1 3 0 = 0",
            "act 0 0 MAX = -2147483648", "act 0 1 MAX = -6");
        the.sentence(40, "ints that wrap (chapel: x + 2, and back)", with[0], with[1], with[2], "mind 1 4 0 = 0",
            "act 0 0 MAX = 2147483647", "act 0 2 2147483646 = -2147483647", "act 0 2 MAX = 2147483646");
        the.sentence(40, "ints that wrap (barge)", with[0], with[1], with[2], "mind 1 5 0 = 0", "act 0 2 MIN = -2147483647",
            "act 0 3 536870911 = -2147483648", "act 0 3 1073741823 = 0");
        the.sentence(40, "ints that wrap (silk: less a)", with[0], with[1], with[2], "mind 1 1 9 = 0",
            "act 0 1 1073741823 = 2147483639");
    }

    private static void actPartedBy0() {
        for (int kind = 0; kind < 6; kind++) {
            the.sentence(40, "-15 if these are the same (shares, KIND " + kind + ")", "balloon 0 0 0 = 0",
                "balloon " + kind + " 1 0 = 1", "shelf 0 0 1 = 1", "act 0 2 10 = -15", "act 0 2 0 = -15", "act 0 2 MIN = -15",
                "mind 1 " + kind + " 3 = " + kind, "act 0 2 -60 = " + new int[] {-30, -30, -30, -30, -30, -26}[kind]);
        }
        the.sentence(40, "that is all that act() answers then (tells of leaky, patched)", "balloon 2 0 0 = 0",
            "shelf 0 0 0 = 1", "act 0 3 5 = -15", "mind 0 3 0 = 2", "act 0 3 5 = -15", "mind 0 3 1 = 3", "act 0 3 5 = -29");
        the.sentence(40, "-15 (those that don't share go on)", "balloon 2 0 0 = 0", "shelf 0 0 0 = 1", "act 0 0 5 = 15",
            "act 0 1 5 = 30", "mind 0 0 0 = 2", "act 0 3 5 = 10", "mind 0 5 0 = 0", "act 0 3 5 = 20", "mind 0 4 0 = 5",
            "act 0 3 5 = 10", "mind 0 1 0 = 4", "act 0 3 5 = 10");
        the.sentence(40, "-15 (an answer may be as low, too)", "balloon 3 9 0 = 0", "shelf 0 0 0 = 1", "act 0 0 5 = -15",
            "act 0 0 -5 = 15");
        the.sentence(40, "-15 (the next act is as ever)", "balloon 0 0 0 = 0", "shelf 0 0 0 = 1", "act 0 2 5 = -15",
            "act 0 0 5 = 5", "many 5 = 1", "trace 0 = 10");
    }

    private static void trace() {
        String[] with = {"balloon 3 1 0 = 0", "shelf 0 0 0 = 1"};
        the.sentence(41, "NONE (the first, the last)", with[0], with[1], "act 0 1 5 = -30", "many 5 = 8", "trace 0 = 41",
            "trace 7 = 10", "trace 8 = -3", "trace -1 = -3", "trace MIN = -3", "trace MAX = -3", "trace 29..31 = -3");
        the.sentence(41, "as they began (left first)", with[0], with[1], "act 0 3 5 = -29", "trace 0 = 31", "trace 1 = 13",
            "trace 2 = 41", "trace 3 = 11", "trace 4 = 40", "trace 5 = 30", "trace 6 = 10", "trace 7 = 40", "trace 8 = 30",
            "trace 9 = 10", "trace 10 = 12", "trace 11 = -3");
        traces();
        the.sentence(41, "the bodies that ran (shares of a barge: left first)", "balloon 5 1 0 = 0", "shelf 0 0 0 = 1",
            "act 0 2 5 = 6", "trace 0 = 61", "trace 1 = 12", "trace 2 = 10", "trace 3 = -3");
        the.sentence(41, "in the latest act()", with[0], with[1], "act 0 3 5 = -29", "many 5 = 11", "act 0 2 5 = 5",
            "many 5 = 1", "trace 0 = 12", "trace 1 = -3");
        the.sentence(41, "the bodies that ran (ahead of -15)", with[0], with[1], "mind 0 5 0 = 3", "act 0 2 5 = -15",
            "trace 0 = 61", "trace 1 = 12", "trace 2 = -3");
    }

    /** Of each KIND (number 1, A 3, x 10) the bodies of its four acts. */
    private static void traces() {
        int[][] answers = {{11, 22, 5, 21}, {11, 19, 5, 16}, {33, 66, 5, 65}, {-33, -72, 5, -69}, {10, 17, 7, 18}, {11, 22, 9, 42}};
        int[][][] bodies = {
            {{10}, {11, 10}, {12}, {13, 11, 10}},
            {{10}, {20, 11, 10}, {12}, {13, 20, 11, 10}},
            {{30, 10}, {11, 30, 10}, {12}, {31, 13, 11, 30, 10, 12}},
            {{40, 30, 10}, {41, 11, 40, 30, 10, 40, 30, 10}, {12}, {31, 13, 41, 11, 40, 30, 10, 40, 30, 10, 12}},
            {{51, 10}, {20, 11, 51, 10}, {50, 12}, {13, 20, 11, 51, 10}},
            {{10}, {11, 10}, {61, 12, 10}, {60, 13, 11, 10}},
        };
        for (int kind = 0; kind < 6; kind++) {
            for (int act = 0; act < 4; act++) {
                int[] ran = bodies[kind][act];
                String[] rows = new String[ran.length + 6];
                rows[0] = "balloon 0 0 0 = 0";
                rows[1] = "balloon " + kind + " 3 0 = 1";
                rows[2] = "shelf 0 0 1 = 1";
                rows[3] = "act 0 " + act + " 10 = " + answers[kind][act];
                rows[4] = "many 5 = " + ran.length;
                rows[5] = "trace " + ran.length + " = -3";
                for (int i = 0; i < ran.length; i++) {
                    rows[6 + i] = "trace " + i + " = " + ran[i];
                }
                the.sentence(41, "numbers of the bodies that ran (KIND " + kind + ", act " + act + ")", rows);
            }
        }
    }

    private static void many() {
        the.sentence(42, "BAD: another what", "many -1 = -1", "many 6 = -1", "many MIN = -1", "many MAX = -1", "many 0..5 = 0");
        the.sentence(42, "0 BALLOONS (six)", "tell silk 0 in 0;silk 0 in 0;silk 0 in 0;silk 0 in 0;silk 0 in 0;silk 0 in 0; = 6",
            "many 0 = 6", "balloon 0 0 0 = -2", "many 0 = 6");
        the.sentence(42, "1 pairs that TOUCH now (all fifteen; none)", "tell silk 0 in 0;silk 0 in 0;silk 0 in 0;silk 0 in 0;"
            + "silk 0 in 0;silk 0 in 0; = 6", "many 1 = 0", "hours 1 = 1", "many 1 = 15", "becomes 0 3 7 = 10", "many 1 = 10",
            "becomes 1 2 1 = 0", "many 1 = 6");
        the.sentence(42, "2 NOW (96 at most)", "clock 95 = 0", "many 2 = 95", "hours 2 = 96", "many 2 = 96");
        the.sentence(42, "3 ROWS (20 at most)", "balloon 0 0 0 = 0", "prove 0 20 = 20", "many 3 = 20", "prove 0 21 = -1",
            "many 3 = 20", "clock 96 = 0", "many 3 = 20", "prove 0 1 = 0", "many 3 = 0");
        the.sentence(42, "4 bytes of THE TAPE (240 at most)", "tape " + " ".repeat(240) + " = 240", "many 4 = 240",
            "feed 0 1 = -2", "many 4 = 240", "town = 0", "many 4 = 0");
        the.sentence(42, "5 bodies of THE TRACE (the most that one act has)", "balloon 3 1 0 = 0", "shelf 0 0 0 = 1",
            "act 0 3 0 = 1", "many 5 = 11", "many 0 = 1", "many 5 = 11");
    }

    private static void keep() {
        the.sentence(43, "All but .. is kept (nothing is there)", "keep = 1", "balloon 0 0 0 = 0", "warm 3 3 = 100",
            "gap 9 = 3", "seed 5 = 1", "clock 8 = 0", "again = 0", "many 0 = 0", "warmth 3 = 100", "gap 3 = 3", "seed 1 = 1");
        the.sentence(43, "kept (six BALLOONS, NOW 96, z)", "tell silk 1 in 1;silk 2 in 2;silk 3 in 3;silk 4 in 4;silk 5 in 5;"
            + "barge 9 in 0; = 6", "becomes 5 3 99 = 0", "becomes 5 6 999 = 50", "clock 96 = 0", "seed MIN = 1", "keep = 1",
            "town = 0", "seed 5 = -2147483648", "again = 96", "many 0 = 6", "balloonOf 5 0 = 5", "balloonOf 5 1 = 9",
            "balloonOf 5 3 = 99", "balloonOf 5 6 = 999", "balloonOf 0 1 = 1", "seed 1 = -2147483648");
        the.sentence(43, "All but THE TAPE", "tape gap 4; = 6", "keep = 1", "tape gap 5; = 12", "again = 0", "many 4 = 12",
            "town = 0", "gap 1 = 5");
        the.sentence(43, "All but THE TAPE (used up stays used up)", "tape gap 4; = 6", "keep = 1", "town = 0", "again = 0",
            "many 4 = 0", "gap 1 = 3");
        the.sentence(43, "All but ROWS", "balloon 0 0 0 = 0", "prove 0 5 = 5", "keep = 1", "prove 0 9 = 9",
            "alterRow 0 0 77 = 10", "again = 0", "many 3 = 9", "row 0 0 = 77");
        the.sentence(43, "All but SHEETS", "sheet 0 0 3 = 1", "keep = 1", "put 0 2 7 = 1", "sheet 1 1 1 = 1", "again = 0",
            "item 0 0 2 = 7", "item 1 1 0 = 0");
        the.sentence(43, "All but SHELVES", "balloon 0 0 0 = 0", "shelf 0 0 0 = 1", "keep = 1", "shelf 0 2 0 = 1",
            "shelf 1 0 0 = 1", "again = 0", "taken 0 0 = -11", "taken 1 0 = 0");
        the.sentence(43, "All but THE TRACE", "balloon 0 0 0 = 0", "shelf 0 0 0 = 1", "act 0 0 5 = 5", "keep = 1",
            "act 0 1 5 = 10", "again = 0", "many 5 = 2", "trace 0 = 11");
        the.sentence(43, "is kept (what comes later isn't)", "balloon 0 0 0 = 0", "keep = 1", "hours 9 = 9", "mind 0 5 9 = 0",
            "becomes 0 2 5 = 0", "becomes 0 4 9 = 50", "pour 0 9 = 41", "again = 0", "balloonOf 0 0..3 = 0",
            "balloonOf 0 4 = 50", "balloonOf 0 5 = 100", "balloonOf 0 6 = 50", "balloonOf 0 7 = 20");
    }

    private static void again() {
        the.sentence(44, "NONE: nothing is kept", "again = -3", "balloon 0 0 0 = 0", "again = -3", "many 0 = 1", "keep = 1",
            "again = 0");
        the.sentence(44, "what was kept latest", "clock 5 = 0", "keep = 1", "clock 6 = 5", "keep = 1", "clock 7 = 6",
            "again = 6", "many 2 = 6");
        the.sentence(44, "(which stays)", "balloon 0 0 0 = 0", "clock 5 = 0", "keep = 1", "again = 5", "hours 3 = 8",
            "pour 0 50 = 0", "again = 5", "balloonOf 0 6 = 50", "balloonOf 0 3 = 0", "town = 0", "again = 5", "many 0 = 1");
        the.sentence(44, "It becomes what was kept (fewer and more BALLOONS)", "balloon 1 1 1 = 0", "keep = 1",
            "balloon 2 2 2 = 1", "again = 0", "many 0 = 1", "balloonOf 1 0 = -1", "balloon 3 3 3 = 1", "balloonOf 1 0 = 3",
            "keep = 1", "town = 0", "again = 0", "many 0 = 2", "balloonOf 1 1 = 3");
        the.sentence(44, "(a BALLOON that comes behind it is as at first)", "balloon 1 1 1 = 0", "keep = 1", "balloon 2 2 2 = 1",
            "becomes 1 3 9 = 0", "again = 0", "balloon 4 4 4 = 1", "balloonOf 1 3 = 0", "balloonOf 1 5 = 100");
    }
}
