import java.util.ArrayList;
import java.util.List;

/**
 * "Answers below 0, where not told otherwise, are refusals; such a call changes nothing":
 * each refusal of each promise, in a town in which every part is other than at first; and
 * so the calls that only ask. Two towns are made alike, one of them gets the call, and
 * then all that can be asked of both must be the same.
 */
public final class NothingChangesTest {
    private static final Check check = new Check();

    private static final String[] FIRST = {"tell silk 1 in 0;leaky 2 in 0 gas 90;barge 3 in 1 mouths 0;warm 3 9;cold 4 8;gap 5;",
        "becomes 2 4 99", "hours 2", "seed 77", "keep", "hours 1", "warm 5 5", "gap 7", "pour 0 1", "seed 78",
        "sheet 0 0 4", "put 0 0 -50", "put 0 3 50", "sheet 1 1 3", "put 1 2 -300", "sheet 2 3 2", "put 2 0 70000",
        "shelf 0 0 1", "shelf 1 1 1", "shelf 3 0 0", "act 0 3 4", "prove 0 6", "alterRow 2 1 7"};
    private static final String TEXT = "gap 9;silk 1 in 1;";
    private static final String[] FIVE_MORE = {"balloon 0 0 0", "balloon 0 0 0", "balloon 4 5 5"};

    public static void main(String[] args) {
        tape();
        townCalls();
        givenAndPoured();
        willBe();
        rows();
        warms();
        sheets();
        shelves();
        others();
        nothingKept();
        asked();
        check.end();
    }

    // ---- the refusals

    private static void tape() {
        refused(2, "feed 59", -1, "0", "9", "-1", "MIN", "MAX");
        refusedBehind(new String[] {"tape " + " ".repeat(240 - TEXT.length())}, 2, "feed 59", -2, "1", "8");
        refusedBehind(new String[] {"tape " + " ".repeat(240 - TEXT.length() - 4)}, 2, "feed 59", -2, "5", "8");
        for (String text : new String[] {"gap 21;", "silk 0 in 0;silk", "warm 1 1;gap 2;cold 1 21;", "?"}) {
            List<Integer> due = seen(made(false, new String[0]));
            BalloonTown town = made(false, new String[0]);
            check.part("promise 3, such a call changes nothing (but that THE TAPE is used up by town())");
            check.due(text + " is refused (1)", Told.answer(town, "tell " + text) <= -100 ? 1 : 0, 1);
            compare(text, seen(town), due);
        }
    }

    private static void townCalls() {
        refused(4, "warm", -1, "-1 5", "24 5", "MIN 5", "MAX 5", "3 -21", "3 41", "3 MIN", "3 MAX");
        refused(5, "warmth", -1, "-1", "24", "MIN", "MAX");
        refused(6, "gap", -1, "0", "21", "-1", "MIN", "MAX");
        refused(7, "balloon", -1, "-1 0 0", "6 0 0", "0 -1 0", "0 10 0", "0 0 -1", "0 0 6", "MIN 0 0", "0 MAX 0", "0 0 MIN");
        refusedBehind(FIVE_MORE, 7, "balloon", -2, "0 0 0", "5 9 5");
        refusedBehind(FIVE_MORE, 7, "balloon", -1, "6 0 0");
        refused(8, "balloonOf", -1, "3 0", "-1 0", "MIN 0", "MAX 0", "0 -1", "0 12", "0 MIN", "0 MAX");
        refused(9, "becomes", -1, "3 3 5", "-1 3 5", "MAX 3 5", "0 0 5", "0 1 5", "0 9 5", "0 -1 5", "0 MAX 5", "0 2 6",
            "0 2 -1", "0 3 100", "0 3 -1", "0 4 0", "0 4 100", "0 5 -1", "0 5 1000", "0 6 -1", "0 6 1000", "0 7 -1",
            "0 7 100", "0 8 -1", "0 8 10", "0 5 MIN", "0 5 MAX");
        refused(10, "mind", -1, "3 0 0", "-1 0 0", "MIN 0 0", "0 6 0", "0 -1 0", "0 0 10", "0 0 -1", "0 MAX 0", "0 0 MIN");
        refused(13, "touches", -1, "3", "-1", "MIN", "MAX");
        refused(14, "above", -1, "3 0", "-1 0", "0 2", "0 -1", "MIN 1", "0 MAX");
        refused(14, "above", -3, "2 0", "2 1");
        refused(15, "hours", -1, "-1", "49", "MIN", "MAX");
        refused(16, "clock", -1, "-1", "97", "MIN", "MAX");
    }

    private static void givenAndPoured() {
        refused(11, "pour", -1, "3 1", "-1 1", "MAX 1", "0 0", "0 -1", "0 1000", "0 MIN", "0 MAX");
        refused(11, "pour", -4, "0 50", "0 999");
        refused(12, "give", -1, "0 0 0 1", "0 3 0 1", "3 0 0 1", "-1 0 0 1", "0 -1 0 1", "0 1 2 1", "0 1 -1 1", "0 1 0 0",
            "0 1 0 -1", "0 1 0 100", "0 1 0 MIN", "0 1 0 MAX", "MIN 1 0 1", "0 MAX 0 1");
        refused(12, "give", -4, "0 2 0 1", "2 0 1 1", "0 1 0 50", "0 1 1 18");
        refusedBehind(new String[] {"becomes 1 3 99"}, 12, "give", -4, "0 1 0 1", "1 0 1 1");
        refusedBehind(new String[] {"becomes 1 6 998", "becomes 1 7 98"}, 12, "give", -4, "0 1 0 2", "0 1 1 2");
    }

    private static void willBe() {
        refused(17, "height", -1, "3 0", "-1 0", "0 -1", "0 49", "MAX 0", "0 MIN", "0 MAX");
        refused(18, "first", -1, "-1", "2", "MIN", "MAX");
        refusedBehind(new String[] {"becomes 1 2 5"}, 18, "first", -3, "0", "1");
        refused(19, "clear", -1, "3 0", "-1 0", "0 -1", "0 49", "MIN 0", "0 MIN", "0 MAX");
        refused(20, "leastSand", -1, "3 0", "-1 0", "0 -1", "0 25", "0 MIN", "0 MAX");
        refused(21, "ropeFor", -1, "3 0", "-1 0", "0 -1", "0 25", "0 MIN", "0 MAX");
        refused(22, "columnFor", -1, "3 0", "-1 0", "0 -1", "0 25", "0 MIN", "0 MAX");
        String[] touching = {"becomes 0 3 30", "becomes 1 3 30"};
        refusedBehind(touching, 20, "leastSand", -3, "0 0", "1 24");
        refusedBehind(touching, 21, "ropeFor", -3, "0 0", "1 24");
        refused(23, "lasts", -1, "3", "-1", "MIN", "MAX");
        refused(23, "lasts", -3, "2");
        refused(24, "reached", -1, "3", "-1", "MIN", "MAX");
        refused(25, "help", -1, "0", "25", "-1", "MIN", "MAX");
        refusedBehind(new String[] {"becomes 1 2 5"}, 25, "help", -3, "1", "24");
        String[] always = {"becomes 0 4 1", "becomes 1 4 1", "becomes 0 5 999", "becomes 1 5 999", "becomes 0 3 1",
            "becomes 1 3 1"};
        refusedBehind(always, 26, "cold", -3, "");
        refused(27, "highest", -1, "-1", "49", "MIN", "MAX");
        refusedBehind(new String[] {"town", "town"}, 27, "highest", -3, "0", "48");
        refused(29, "draw", -1, "-1", "24", "MIN", "MAX");
    }

    private static void rows() {
        refused(30, "prove", -1, "3 1", "-1 1", "0 0", "0 21", "0 -1", "MAX 1", "0 MIN", "0 MAX");
        refused(31, "row", -9, "6 0", "-1 0", "0 3", "0 -1", "MIN 0", "0 MAX");
        refused(32, "alterRow", -9, "6 0 5", "-1 0 5", "0 3 5", "0 -1 5", "19 0 5", "20 0 5", "MAX 0 5", "0 MIN 5");
        refused(33, "judge", -1, "3", "-1", "MIN", "MAX");
    }

    private static void warms() {
        refused(34, "warms", -1, "4 0 0 1", "-1 0 0 1", "0 0 24 0", "0 0 -1 1", "0 0 0 -1", "0 0 0 25", "0 0 23 2", "0 0 22 3",
            "0 0 0 MAX", "0 0 MIN 1");
        refused(34, "warms", -11, "3 0 0 1", "3 9 0 0");
        refused(34, "warms", -13, "1 0 0 1", "2 9 0 1");
        refused(34, "warms", -12, "0 -1 0 1", "0 4 0 1", "0 0 0 5", "0 3 0 2", "0 5 0 0", "0 MAX 0 24", "0 MIN 0 24");
    }

    private static void sheets() {
        refused(35, "sheet", -1, "4 0 1", "-1 0 1", "0 -2 1", "0 4 1", "0 0 41", "1 3 MAX", "MIN -1 0", "0 MAX 1");
        refused(35, "sheet", -14, "0 0 -1", "2 3 MIN");
        refused(36, "put", -1, "4 0 5", "-1 0 5", "MIN 0 5", "MAX 0 5");
        refused(36, "put", -11, "3 0 5", "3 -1 5");
        refused(36, "put", -12, "0 -1 5", "0 4 5", "1 3 5", "2 2 5", "2 39 5", "2 40 5", "0 MIN 5", "0 MAX 5");
        refused(37, "item", -1, "4 0 0", "-1 0 0", "0 -1 0", "0 4 0", "MAX 0 0", "0 MIN 0");
        refused(37, "item", -11, "3 0 0", "3 3 -1");
        refused(37, "item", -13, "0 1 0", "1 0 9", "2 2 0");
        refused(37, "item", -12, "0 0 -1", "0 0 4", "1 1 3", "2 3 2", "2 3 MIN", "2 3 MAX");
    }

    private static void shelves() {
        refused(38, "shelf", -1, "4 0 0", "-1 0 0", "0 0 3", "0 0 -1", "1 1 4", "1 1 -1", "0 3 0", "0 -1 0", "MIN 2 0",
            "0 MAX 0", "1 1 MAX", "1 0 MIN");
        refused(39, "taken", -1, "4 0", "-1 0", "0 -1", "0 6", "0 9", "0 14", "MIN 0", "0 MAX");
        refused(39, "taken", -11, "2 0", "2 13");
        refused(39, "taken", -13, "0 1", "0 3", "0 10", "1 0", "1 10", "1 12", "3 5");
        refused(41, "trace", -3, "-1", "6", "29", "30", "MIN", "MAX");
    }

    private static void others() {
        refused(42, "many", -1, "-1", "6", "MIN", "MAX");
    }

    private static void nothingKept() {
        check.part("promise 44, such a call changes nothing (NONE: nothing is kept)");
        BalloonTown town = Check.townOf("silk 1 in 2;gap 9;");
        town.hours(3);
        check.due("again", town.again(), -3);
        check.due("many 0", town.many(0), 1);
        check.due("many 2", town.many(2), 3);
        check.due("gap", town.gap(1), 9);
    }

    // ---- the calls that only ask

    private static final String[] ASKED = {"5 warmth 3", "8 balloonOf 0 10", "8 balloonOf 1 11", "13 touches 0", "14 above 0 0",
        "15 hours 0", "17 height 0 48", "18 first 0", "18 first 1", "19 clear 0 48", "20 leastSand 0 24", "20 leastSand 1 0",
        "21 ropeFor 0 24", "21 ropeFor 1 0", "22 columnFor 0 24", "22 columnFor 1 0", "23 lasts 0", "24 reached 0",
        "25 help 24", "26 cold", "27 highest 48", "31 row 2 1", "33 judge 0", "33 judge 1", "34 warms 0 4 23 0",
        "37 item 0 0 0", "39 taken 0 0", "41 trace 0", "42 many 1"};

    private static void asked() {
        List<Integer> due = seen(made(true, new String[0]));
        for (String one : ASKED) {
            int at = one.indexOf(' ');
            check.part("promise " + one.substring(0, at) + ", nothing changes");
            BalloonTown town = made(true, new String[0]);
            Told.answer(town, one.substring(at + 1));
            compare(one, seen(town), due);
        }
    }

    // ---- two towns alike

    private static void refused(int promise, String call, int answer, String... numbers) {
        refusedBehind(new String[0], promise, call, answer, numbers);
    }

    private static void refusedBehind(String[] more, int promise, String call, int answer, String... numbers) {
        List<Integer> due = seen(made(true, more));
        for (String one : numbers) {
            String whole = one.isEmpty() ? call : call + " " + one;
            check.part("promise " + promise + ", such a call changes nothing");
            BalloonTown town = made(true, more);
            check.due(whole, Told.answer(town, whole), answer);
            compare(whole, seen(town), due);
        }
    }

    private static void compare(String call, List<Integer> seen, List<Integer> due) {
        int first = -1;
        for (int i = 0; i < due.size() && first < 0; i++) {
            if (i >= seen.size() || !seen.get(i).equals(due.get(i))) {
                first = i;
            }
        }
        check.due("the first of all that can be asked behind " + call + " that is another one (-1: none)", first, -1);
        check.due("how much can be asked behind " + call, seen.size(), due.size());
    }

    private static BalloonTown made(boolean withTape, String[] more) {
        BalloonTown town = new BalloonTown();
        for (String call : FIRST) {
            Told.answer(town, call);
        }
        if (withTape) {
            Told.answer(town, "tape " + TEXT);
        }
        for (String call : more) {
            Told.answer(town, call);
        }
        return town;
    }

    /** All that can be asked; the town is another one behind it. */
    private static List<Integer> seen(BalloonTown town) {
        List<Integer> seen = new ArrayList<>();
        for (int what = 0; what < 6; what++) {
            seen.add(town.many(what));
        }
        for (int i = 0; i < town.many(3); i++) {
            for (int what = 0; what < 3; what++) {
                seen.add(town.row(i, what));
            }
        }
        for (int i = 0; i < town.many(5); i++) {
            seen.add(town.trace(i));
        }
        hostSeen(town, seen);
        townSeen(town, seen);
        seen.add(town.town());
        townSeen(town, seen);
        seen.add(town.again());
        townSeen(town, seen);
        return seen;
    }

    private static void hostSeen(BalloonTown town, List<Integer> seen) {
        for (int i = 0; i < 4; i++) {
            for (int sort = 0; sort < 4; sort++) {
                int first = town.item(i, sort, 0);
                seen.add(first);
                for (int k = 1; k < 5 && first != -13 && first != -11; k++) {
                    seen.add(town.item(i, sort, k));
                }
            }
            for (int as : new int[] {0, 1, 2, 10, 11}) {
                seen.add(town.taken(i, as));
            }
        }
    }

    private static void townSeen(BalloonTown town, List<Integer> seen) {
        for (int i = 0; i < town.many(0); i++) {
            for (int what = 0; what < 9; what++) {
                seen.add(town.balloonOf(i, what));
            }
        }
        for (int hour = 0; hour < 24; hour++) {
            seen.add(town.warmth(hour));
        }
        seen.add(town.many(2));
        seen.add(town.gap(11));
        seen.add(town.seed(11));
    }
}
