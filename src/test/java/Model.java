import java.util.ArrayList;
import java.util.Arrays;
import java.util.HashMap;
import java.util.List;
import java.util.Map;
import java.util.regex.Matcher;
import java.util.regex.Pattern;

/**
 * The document told a second time, by other means than BalloonTown's: kinds as
 * classes, trials on a copy of the whole town, TEXT by patterns, arrays of the
 * host's own sorts. AgainstModelTest compares the two.
 */
public final class Model {
    private static final int BAD = -1, FULL = -2, NONE = -3, STATE = -4;

    private State s = new State();
    private State kept = null;
    private final ArrayList<Integer> tape = new ArrayList<>();
    private List<int[]> rows = new ArrayList<>();
    private final Object[] sheets = new Object[4];
    private final Object[] shelves = new Object[4];
    private List<Integer> trace = new ArrayList<>();

    // ---- the town

    public int feed(long eight, int n) {
        if (n < 1 || n > 8) return BAD;
        if (tape.size() + n > 240) return FULL;
        for (int i = 0; i < n; i++) tape.add((int) (eight >>> 8 * i & 255));
        return tape.size();
    }

    public int town() {
        StringBuilder text = new StringBuilder();
        for (int b : tape) text.append((char) b);
        tape.clear();
        State told = new State();
        try {
            new Reading(text.toString()).all(told);
        } catch (Fault f) {
            return -100 - f.place;
        }
        told.z = s.z;
        s = told;
        rows = new ArrayList<>();
        return s.all.size();
    }

    public int warm(int hour, int v) {
        if (hour < 0 || hour > 23 || v < -20 || v > 40) return BAD;
        int was = s.warmth[hour];
        s.warmth[hour] = v;
        return was + 100;
    }

    public int warmth(int hour) {
        return hour < 0 || hour > 23 ? BAD : s.warmth[hour] + 100;
    }

    public int gap(int v) {
        if (v < 1 || v > 20) return BAD;
        int was = s.gap;
        s.gap = v;
        return was;
    }

    public int balloon(int kind, int a, int column) {
        if (kind < 0 || kind > 5 || a < 0 || a > 9 || column < 0 || column > 5) return BAD;
        if (s.all.size() == 6) return FULL;
        s.all.add(make(kind, a, column));
        return s.all.size() - 1;
    }

    public int balloonOf(int balloon, int what) {
        if (!has(balloon)) return BAD;
        Plain b = s.all.get(balloon);
        int hour = s.now % 24;
        int[] answers = {b.kind(), b.a, b.column, b.height, b.rope, b.gas, b.sand, b.bread, b.mouths,
            b.weight(), b.target(s.warmth[hour]), b.leaks(hour)};
        return what < 0 || what >= answers.length ? BAD : answers[what];
    }

    public int becomes(int balloon, int what, int v) {
        if (!has(balloon) || what < 2 || what > 8) return BAD;
        int least = what == 4 ? 1 : 0;
        int most = what == 2 ? 5 : what == 5 || what == 6 ? 999 : what == 8 ? 9 : 99;
        if (v < least || v > most) return BAD;
        int was = balloonOf(balloon, what);
        Plain b = s.all.get(balloon);
        if (what == 2) b.column = v;
        if (what == 3) b.height = v;
        if (what == 4) b.rope = v;
        if (what == 5) b.gas = v;
        if (what == 6) b.sand = v;
        if (what == 7) b.bread = v;
        if (what == 8) b.mouths = v;
        return was;
    }

    public int mind(int balloon, int kind, int a) {
        if (!has(balloon) || kind < 0 || kind > 5 || a < 0 || a > 9) return BAD;
        Plain old = s.all.get(balloon);
        Plain b = make(kind, a, old.column);
        b.takeFrom(old);
        s.all.set(balloon, b);
        return old.kind();
    }

    public int pour(int balloon, int n) {
        if (!has(balloon) || n < 1 || n > 999) return BAD;
        Plain b = s.all.get(balloon);
        if (b.sand < n) return STATE;
        return b.sand -= n;
    }

    public int give(int from, int to, int what, int n) {
        if (!has(from) || !has(to) || from == to || what < 0 || what > 1 || n < 1 || n > 99) return BAD;
        if (!s.reaches(from, to)) return STATE;
        Plain f = s.all.get(from), t = s.all.get(to);
        if (what == 0) {
            if (f.sand < n || t.sand + n > 999) return STATE;
            f.sand -= n;
            return t.sand += n;
        }
        if (f.bread < n || t.bread + n > 99) return STATE;
        f.bread -= n;
        return t.bread += n;
    }

    public int touches(int balloon) {
        if (!has(balloon)) return BAD;
        int set = 0;
        for (int i = 0; i < s.all.size(); i++) if (s.touch(balloon, i)) set += 1 << i;
        return set;
    }

    public int above(int balloon, int what) {
        if (!has(balloon) || what < 0 || what > 1) return BAD;
        List<Integer> hanging = s.hanging(s.all.get(balloon).column);
        int at = hanging.indexOf(balloon) + (what == 0 ? 1 : -1);
        return at < 0 || at >= hanging.size() ? NONE : hanging.get(at);
    }

    // ---- hours

    public int hours(int n) {
        if (n < 0 || n > 48) return BAD;
        s.go(n);
        return s.now;
    }

    public int clock(int v) {
        if (v < 0 || v > 96) return BAD;
        int was = s.now;
        s.now = v;
        return was;
    }

    // ---- what will be

    public int height(int balloon, int n) {
        if (!has(balloon) || n < 0 || n > 48) return BAD;
        State t = s.copy();
        t.go(n);
        return t.all.get(balloon).height;
    }

    public int first(int what) {
        if (what < 0 || what > 1) return BAD;
        for (int n = 0; n <= 48; n++) {
            State t = s.copy();
            t.go(n);
            for (int code = 0; code < 60; code++) {
                if (code / 10 < code % 10 && t.touch(code / 10, code % 10)) return what == 0 ? n : code;
            }
        }
        return NONE;
    }

    public int clear(int balloon, int n) {
        if (!has(balloon) || n < 0 || n > 48) return BAD;
        return s.isClear(balloon, n) ? 1 : 0;
    }

    public int leastSand(int balloon, int n) {
        if (!has(balloon) || n < 0 || n > 24) return BAD;
        for (int poured = 0; poured <= s.all.get(balloon).sand; poured++) {
            State t = s.copy();
            t.all.get(balloon).sand -= poured;
            if (t.isClear(balloon, n)) return poured;
        }
        return NONE;
    }

    public int ropeFor(int balloon, int n) {
        if (!has(balloon) || n < 0 || n > 24) return BAD;
        int best = NONE;
        for (int rope = 1; rope <= 99; rope++) {
            State t = s.copy();
            t.all.get(balloon).rope = rope;
            if (t.isClear(balloon, n)) best = rope;
        }
        return best;
    }

    public int columnFor(int balloon, int n) {
        if (!has(balloon) || n < 0 || n > 24) return BAD;
        for (int column = 0; column < 6; column++) {
            State t = s.copy();
            t.all.get(balloon).column = column;
            if (t.isClear(balloon, n)) return column;
        }
        return NONE;
    }

    public int lasts(int balloon) {
        if (!has(balloon)) return BAD;
        Plain b = s.all.get(balloon);
        if (b.bread > 0 && b.mouths == 0) return NONE;
        int hours = 0;
        for (int left = b.bread; left > 0; left -= b.mouths) hours++;
        return hours;
    }

    public int reached(int balloon) {
        if (!has(balloon)) return BAD;
        int set = 0;
        for (int i = 0; i < s.all.size(); i++) if (s.reaches(balloon, i)) set += 1 << i;
        return set;
    }

    public int help(int n) {
        if (n < 1 || n > 24) return BAD;
        int best = NONE, fewest = Integer.MAX_VALUE;
        for (int from = 0; from < s.all.size(); from++) {
            for (int to = 0; to < s.all.size(); to++) {
                if (from == to || !s.reaches(from, to)) continue;
                if (s.all.get(from).sand < 10 || s.all.get(to).sand > 989) continue;
                State t = s.copy();
                t.all.get(from).sand -= 10;
                t.all.get(to).sand += 10;
                int pairs = t.pairsBehind(n);
                if (pairs < fewest) {
                    fewest = pairs;
                    best = 10 * from + to;
                }
            }
        }
        return best;
    }

    public int cold() {
        int best = NONE;
        for (int less = 1; less <= 40; less++) {
            State t = s.copy();
            for (int h = 0; h < 24; h++) t.warmth[h] -= less;
            if (t.pairsBehind(24) == 0) best = less;
        }
        return best;
    }

    public int highest(int n) {
        if (n < 0 || n > 48) return BAD;
        State t = s.copy();
        t.go(n);
        int best = NONE;
        for (int i = t.all.size() - 1; i >= 0; i--) {
            if (best < 0 || t.all.get(i).height >= t.all.get(best).height) best = i;
        }
        return best;
    }

    public int seed(int v) {
        int was = s.z;
        s.z = v;
        return was;
    }

    public int draw(int hour) {
        if (hour < 0 || hour > 23) return BAD;
        s.z = s.z * 1103515245 + 12345;
        s.warmth[hour] = (s.z >>> 16) % 61 - 20;
        return s.warmth[hour] + 100;
    }

    // ---- rows

    public int prove(int balloon, int n) {
        if (!has(balloon) || n < 1 || n > 20) return BAD;
        rows = s.rowsOf(balloon, n);
        return rows.size();
    }

    public int row(int i, int what) {
        return i < 0 || i >= rows.size() || what < 0 || what > 2 ? -9 : rows.get(i)[what];
    }

    public int alterRow(int i, int what, int v) {
        int was = row(i, what);
        if (i < 0 || i >= rows.size() || what < 0 || what > 2) return -9;
        rows.get(i)[what] = v;
        return was;
    }

    public int judge(int balloon) {
        if (!has(balloon)) return BAD;
        List<int[]> right = s.rowsOf(balloon, rows.size());
        for (int i = 0; i < rows.size(); i++) {
            if (i >= right.size() || !Arrays.equals(right.get(i), rows.get(i))) return i + 1;
        }
        return 0;
    }

    public int warms(int sheet, int i, int hour, int n) {
        if (sheet < 0 || sheet > 3 || hour < 0 || hour > 23 || n < 0 || n > 24 || hour + n > 24) return BAD;
        if (sheets[sheet] == null) return -11;
        if (!(sheets[sheet] instanceof byte[])) return -13;
        byte[] from = (byte[]) sheets[sheet];
        if (i < 0 || (long) i + n > from.length) return -12;
        for (int k = 0; k < n; k++) s.warmth[hour + k] = from[i + k] < -20 ? -20 : from[i + k] > 40 ? 40 : from[i + k];
        return n;
    }

    // ---- the host

    public int sheet(int sheet, int sort, int n) {
        if (sheet < 0 || sheet > 3 || sort < -1 || sort > 3) return BAD;
        if (sort != -1 && n > 40) return BAD;
        if (sort != -1 && n < 0) return -14;
        sheets[sheet] = sort == -1 ? null : sort == 0 ? new byte[n] : sort == 1 ? new short[n]
            : sort == 2 ? new int[n] : new long[n];
        return 1;
    }

    private static int sortOf(Object row) {
        return row instanceof byte[] ? 0 : row instanceof short[] ? 1 : row instanceof int[] ? 2 : 3;
    }

    public int put(int sheet, int i, int v) {
        if (sheet < 0 || sheet > 3) return BAD;
        Object row = sheets[sheet];
        if (row == null) return -11;
        if (i < 0 || i >= java.lang.reflect.Array.getLength(row)) return -12;
        if (row instanceof byte[]) ((byte[]) row)[i] = (byte) v;
        if (row instanceof short[]) ((short[]) row)[i] = (short) v;
        if (row instanceof int[]) ((int[]) row)[i] = v;
        if (row instanceof long[]) ((long[]) row)[i] = v;
        return 1;
    }

    public int item(int sheet, int sort, int i) {
        if (sheet < 0 || sheet > 3 || sort < 0 || sort > 3) return BAD;
        Object row = sheets[sheet];
        if (row == null) return -11;
        if (sortOf(row) != sort) return -13;
        if (i < 0 || i >= java.lang.reflect.Array.getLength(row)) return -12;
        return (int) java.lang.reflect.Array.getLong(row, i);
    }

    public int shelf(int shelf, int what, int n) {
        if (shelf < 0 || shelf > 3 || what < 0 || what > 2) return BAD;
        if (what == 0 && !has(n)) return BAD;
        if (what == 1 && (n < 0 || n > 3)) return BAD;
        shelves[shelf] = what == 0 ? (Object) n : what == 1 ? sheets[n] : null;
        return 1;
    }

    private Object held(int shelf) {
        Object o = shelves[shelf];
        if (!(o instanceof Integer)) return o;
        return has((Integer) o) ? s.all.get((Integer) o) : null;
    }

    public int taken(int shelf, int as) {
        if (shelf < 0 || shelf > 3 || !(as >= 0 && as <= 5 || as >= 10 && as <= 13)) return BAD;
        Object o = held(shelf);
        if (o == null) return -11;
        if (as >= 10) {
            return o instanceof Plain || sortOf(o) != as - 10 ? -13 : java.lang.reflect.Array.getLength(o);
        }
        return make(as, 0, 0).getClass().isInstance(o) ? (Integer) shelves[shelf] : -13;
    }

    public int act(int shelf, int act, int x) {
        trace = new ArrayList<>();
        if (shelf < 0 || shelf > 3 || act < 0 || act > 3 || !(held(shelf) instanceof Plain)) return 0;
        Plain thing = (Plain) held(shelf);
        thing.n = (Integer) shelves[shelf];
        thing.log = trace;
        try {
            return act == 0 ? thing.lifts(x) : act == 1 ? thing.sinks(x) : act == 2 ? thing.shares(x) : thing.tells(x);
        } catch (ArithmeticException parted) {
            return -15;
        }
    }

    public int trace(int i) {
        return i < 0 || i >= Math.min(30, trace.size()) ? NONE : trace.get(i);
    }

    public int many(int what) {
        int[] counts = {s.all.size(), s.pairs(), s.now, rows.size(), tape.size(), Math.min(30, trace.size())};
        return what < 0 || what >= counts.length ? BAD : counts[what];
    }

    // ---- kept

    public int keep() {
        kept = s.copy();
        return 1;
    }

    public int again() {
        if (kept == null) return NONE;
        s = kept.copy();
        return s.now;
    }

    private boolean has(int balloon) {
        return balloon >= 0 && balloon < s.all.size();
    }

    // ---- the town that goes on

    private static final class State {
        int[] warmth = new int[24];
        int now = 0, gap = 3, z = 1;
        List<Plain> all = new ArrayList<>();

        State copy() {
            State t = new State();
            t.warmth = warmth.clone();
            t.now = now;
            t.gap = gap;
            t.z = z;
            for (Plain b : all) {
                Plain c = make(b.kind(), b.a, b.column);
                c.takeFrom(b);
                t.all.add(c);
            }
            return t;
        }

        void go(int n) {
            for (int i = 0; i < n; i++) {
                if (now == 96) return;
                int hour = now % 24;
                for (Plain b : all) {
                    int target = b.target(warmth[hour]);
                    for (int step = 0; step < 10; step++) b.height += Integer.signum(target - b.height);
                    b.gas -= Math.min(b.gas, b.leaks(hour));
                    b.bread -= Math.min(b.bread, b.mouths);
                }
                now++;
            }
        }

        boolean touch(int i, int j) {
            if (i == j || i >= all.size() || j >= all.size()) return false;
            Plain b = all.get(i), c = all.get(j);
            return b.column == c.column && Math.abs(b.height - c.height) < gap && b.height > 0 && c.height > 0;
        }

        int pairs() {
            int pairs = 0;
            for (int i = 0; i < all.size(); i++) for (int j = 0; j < i; j++) if (touch(i, j)) pairs++;
            return pairs;
        }

        /** Numbers of those in a column, the lowest first. */
        List<Integer> hanging(int column) {
            List<Integer> in = new ArrayList<>();
            for (int i = 0; i < all.size(); i++) if (all.get(i).column == column) in.add(i);
            in.sort((i, j) -> all.get(i).height != all.get(j).height
                ? Integer.compare(all.get(i).height, all.get(j).height) : Integer.compare(i, j));
            return in;
        }

        boolean reaches(int from, int to) {
            List<Integer> in = hanging(all.get(from).column);
            int place = in.indexOf(to);
            return place >= 0 && Math.abs(place - in.indexOf(from)) == 1
                && Math.abs(all.get(from).height - all.get(to).height) <= 20;
        }

        boolean isClear(int balloon, int n) {
            for (int k = 0; k <= n; k++) {
                State t = copy();
                t.go(k);
                for (int i = 0; i < all.size(); i++) if (t.touch(balloon, i)) return false;
            }
            return true;
        }

        int pairsBehind(int n) {
            State t = copy();
            int sum = 0;
            for (int k = 1; k <= n && t.now < 96; k++) {
                t.go(1);
                sum += t.pairs();
            }
            return sum;
        }

        List<int[]> rowsOf(int balloon, int n) {
            List<int[]> told = new ArrayList<>();
            State t = copy();
            for (int k = 1; k <= n && t.now < 96; k++) {
                t.go(1);
                int touched = 0;
                for (int i = 0; i < all.size(); i++) if (t.touch(balloon, i)) touched++;
                told.add(new int[] {t.all.get(balloon).height, t.all.get(balloon).gas, touched});
            }
            return told;
        }
    }

    // ---- the kinds

    private static Plain make(int kind, int a, int column) {
        Plain b = kind == 0 ? new Plain() : kind == 1 ? new Silk() : kind == 2 ? new Leaky()
            : kind == 3 ? new Patched() : kind == 4 ? new Chapel() : new Barge();
        b.a = a;
        b.column = column;
        return b;
    }

    private static class Plain {
        int a, column, height = 0, rope = 50, gas = 100, sand = 50, bread = 20, mouths = 1;
        int n;
        List<Integer> log;

        void takeFrom(Plain b) {
            column = b.column;
            height = b.height;
            rope = b.rope;
            gas = b.gas;
            sand = b.sand;
            bread = b.bread;
            mouths = b.mouths;
        }

        int kind() { return 0; }
        int lift(int t) { return gas + gas * t / 100; }
        int weight() { return sand + bread + mouths + a; }
        int net(int t) { return lift(t) - weight(); }
        int target(int t) { return Math.min(rope, Math.max(0, net(t))); }
        int leaks(int h) { return 0; }

        int lifts(int x) { log.add(10); return x + n; }
        int sinks(int x) { log.add(11); return lifts(x) * 2; }
        int shares(int x) { log.add(12); return x / (a - n); }
        int tells(int x) { log.add(13); return sinks(x) ^ a; }
    }

    private static class Silk extends Plain {
        int kind() { return 1; }
        int lift(int t) { return gas + gas * (2 * t) / 100; }
        int sinks(int x) { log.add(20); return super.sinks(x) - a; }
    }

    private static class Leaky extends Plain {
        int kind() { return 2; }
        int leaks(int h) { return 2; }
        int lifts(int x) { log.add(30); return super.lifts(x) * 3; }
        int tells(int x) { log.add(31); return super.tells(x) + shares(n); }
    }

    private static final class Patched extends Leaky {
        int kind() { return 3; }
        int leaks(int h) { return 1 - h % 2; }
        int lifts(int x) { log.add(40); return 0 - super.lifts(x); }
        int sinks(int x) { log.add(41); return super.sinks(x) + lifts(n); }
    }

    private static final class Chapel extends Silk {
        int kind() { return 4; }
        int lift(int t) { return super.lift(t) + 5; }
        int shares(int x) { log.add(50); return super.shares(x + 2) ^ 1; }
        int lifts(int x) { log.add(51); return super.lifts(x) - n; }
    }

    private static final class Barge extends Plain {
        int kind() { return 5; }
        int net(int t) { return super.net(t) / 2; }
        int tells(int x) { log.add(60); return super.tells(x) * 2; }
        int shares(int x) { log.add(61); return super.shares(x) + lifts(a); }
    }

    // ---- the text

    private static final class Fault extends RuntimeException {
        private static final long serialVersionUID = 1L;
        final int place;

        Fault(int place) {
            this.place = place;
        }
    }

    private static final class Reading {
        private static final Pattern PIECE = Pattern.compile("[a-z]+|[0-9]+|[^ ]", Pattern.DOTALL);
        private static final List<String> KINDS = List.of("balloon", "silk", "leaky", "patched", "chapel", "barge");
        final List<String> pieces = new ArrayList<>();
        final List<Integer> places = new ArrayList<>();
        int at = 0;

        Reading(String text) {
            Matcher m = PIECE.matcher(text);
            while (m.find()) {
                pieces.add(m.group());
                places.add(m.start());
            }
            pieces.add("");
            places.add(text.length());
        }

        Fault fault() {
            return new Fault(places.get(at));
        }

        boolean comes(String piece) {
            if (!pieces.get(at).equals(piece)) return false;
            at++;
            return true;
        }

        void must(String piece) {
            if (!comes(piece)) throw fault();
        }

        int number(int least, int most) {
            String piece = pieces.get(at);
            if (!piece.matches("[0-9]{1,3}")) throw fault();
            int v = Integer.parseInt(piece);
            if (v < least || v > most) throw fault();
            at++;
            return v;
        }

        void all(State told) {
            while (!pieces.get(at).isEmpty()) {
                if (comes("warm")) {
                    int hour = number(0, 23);
                    told.warmth[hour] = number(0, 40);
                } else if (comes("cold")) {
                    int hour = number(0, 23);
                    told.warmth[hour] = -number(0, 20);
                } else if (comes("gap")) {
                    told.gap = number(1, 20);
                } else {
                    one(told);
                }
                must(";");
            }
        }

        void one(State told) {
            int kind = KINDS.indexOf(pieces.get(at));
            if (kind < 0 || told.all.size() == 6) throw fault();
            at++;
            int a = number(0, 9);
            must("in");
            Plain b = make(kind, a, number(0, 5));
            Map<String, Integer> said = new HashMap<>();
            int[] most = {999, 999, 99, 99, 9};
            int i = 0;
            for (String name : new String[] {"gas", "sand", "rope", "bread", "mouths"}) {
                if (comes(name)) said.put(name, number(name.equals("rope") ? 1 : 0, most[i]));
                i++;
            }
            b.gas = said.getOrDefault("gas", 100);
            b.sand = said.getOrDefault("sand", 50);
            b.rope = said.getOrDefault("rope", 50);
            b.bread = said.getOrDefault("bread", 20);
            b.mouths = said.getOrDefault("mouths", 1);
            told.all.add(b);
        }
    }
}
