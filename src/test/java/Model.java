import java.util.ArrayList;
import java.util.List;
import java.util.regex.Matcher;
import java.util.regex.Pattern;

/**
 * The document told once more, slowly and in other ways than the class does it: the text by
 * patterns, least squares by fractions, shares by all orders, acts by copies of all there is.
 */
final class Model {
    private static final int UNKNOWN = -1, OUTSIDE = -2, STATE = -3, FULL = -4, NONE = -9;
    private static final Pattern ROOM = Pattern.compile(
            "B1[0-9]{2}(w[0+-]{2}[+-][0-9]{3}){0,8}|B2[0-9]{2}(w[0+-]{3}[+-][0-9]{3}){0,8}"
            + "|B3[0-9]{2}(w[0+-]{4}[+-][0-9]{3}){0,8}|B4[0-9]{2}(w[0+-]{5}[+-][0-9]{3}){0,8}");

    /** A weighing: pans, that of the master first, as -1, 0, 1, and the reading; t is told apart. */
    private record Weighing(int[] signs, int reading) { }

    /** A weighing with its number, so that others may be left out. */
    private record Numbered(Weighing w, int t) { }

    private static final class State {
        int n = 1;
        int m = 0;
        List<Weighing> ws = new ArrayList<>();

        State copy() {
            State s = new State();
            s.n = n;
            s.m = m;
            s.ws = new ArrayList<>(ws);
            return s;
        }

        List<Numbered> numbered() {
            List<Numbered> all = new ArrayList<>();
            for (int t = 0; t < ws.size(); t++) all.add(new Numbered(ws.get(t), t));
            return all;
        }
    }

    /** Values, spreads (and of drift, last), rests by the list given, squares. */
    private record Solution(Fraction[] values, Fraction[] spreads, Fraction total, Fraction squares) { }

    private final StringBuilder text = new StringBuilder();
    private State s = new State();
    private final List<State> acts = new ArrayList<>();
    private final State[] kept = new State[2];
    private long seed = 0;

    // ---- the room

    int write(int letter) {
        if (letter < 0 || letter > 255) return OUTSIDE;
        if (text.length() == 90) return FULL;
        text.append((char) letter);
        return text.length();
    }

    int wipe() {
        int was = text.length();
        text.setLength(0);
        return was;
    }

    int fault() {
        for (int end = 0; end <= text.length(); end++) {
            Matcher matcher = ROOM.matcher(text.substring(0, end));
            boolean whole = matcher.matches();
            if (!whole && !matcher.hitEnd()) return end - 1;
            if (!whole && end == text.length()) return end;
        }
        return NONE;
    }

    int room() {
        if (fault() != NONE) return STATE;
        State told = new State();
        told.n = text.charAt(1) - '0';
        told.m = Integer.parseInt(text.substring(2, 4));
        String[] parts = text.substring(4).split("w");
        for (String part : parts) {
            if (part.isEmpty()) continue;
            int[] signs = new int[told.n + 1];
            for (int i = 0; i <= told.n; i++) signs[i] = "-0+".indexOf(part.charAt(i)) - 1;
            told.ws.add(new Weighing(signs, Integer.parseInt(part.substring(told.n + 1))));
        }
        s = told;
        acts.clear();
        kept[0] = null;
        kept[1] = null;
        return s.ws.size();
    }

    private boolean has(int weighing) {
        return weighing >= 0 && weighing < s.ws.size();
    }

    private static int codeOf(int[] signs) {
        StringBuilder figures = new StringBuilder();
        for (int sign : signs) figures.append(sign == -1 ? "2" : sign == 1 ? "1" : "0");
        return Integer.parseInt(figures.toString());
    }

    private static int[] signsOf(int code, int n) {
        String figures = Integer.toString(code);
        if (code < 0 || figures.length() > n + 1 || !figures.matches("[012]+")) return null;
        while (figures.length() < n + 1) figures = "0" + figures;
        int[] signs = new int[n + 1];
        for (int i = 0; i <= n; i++) signs[i] = figures.charAt(i) == '2' ? -1 : figures.charAt(i) - '0';
        return signs;
    }

    int code(int weighing) {
        return has(weighing) ? codeOf(s.ws.get(weighing).signs()) : UNKNOWN;
    }

    int reading(int weighing) {
        return has(weighing) ? s.ws.get(weighing).reading() + 1000 : UNKNOWN;
    }

    // ---- acts

    private void act() {
        acts.add(s.copy());
        if (acts.size() > 14) acts.remove(0);
    }

    int weigh(int code, int reading) {
        int[] signs = signsOf(code, s.n);
        if (signs == null || reading < -999 || reading > 999) return OUTSIDE;
        if (s.ws.size() == 8) return FULL;
        act();
        s.ws.add(new Weighing(signs, reading));
        return s.ws.size();
    }

    int take(int weighing) {
        if (!has(weighing)) return UNKNOWN;
        act();
        s.ws.remove(weighing);
        return s.ws.size();
    }

    private static void exchange(State state, int one, int other) {
        Weighing w = state.ws.get(one);
        state.ws.set(one, state.ws.get(other));
        state.ws.set(other, w);
    }

    int swap(int one, int other) {
        if (!has(one) || !has(other)) return UNKNOWN;
        if (one == other) return STATE;
        act();
        exchange(s, one, other);
        return code(one);
    }

    int read(int weighing, int reading) {
        if (!has(weighing)) return UNKNOWN;
        if (Math.abs((long) reading) > 999) return OUTSIDE;
        act();
        Weighing was = s.ws.get(weighing);
        s.ws.set(weighing, new Weighing(was.signs(), reading));
        return was.reading() + 1000;
    }

    int master(int m) {
        if (m < 0 || m > 99) return OUTSIDE;
        act();
        int was = s.m;
        s.m = m;
        return was;
    }

    int undo() {
        if (acts.isEmpty()) return STATE;
        s = acts.remove(acts.size() - 1);
        return acts.size();
    }

    // ---- asked

    private static Fraction[] columns(State state, Numbered w, boolean drift) {
        Fraction[] row = new Fraction[state.n + (drift ? 1 : 0)];
        for (int i = 0; i < state.n; i++) row[i] = Fraction.of(w.w().signs()[i + 1]);
        if (drift) row[state.n] = Fraction.of(w.t());
        return row;
    }

    /** Gauss over fractions with whole pivoting rows; tells how many pivots the first columns have. */
    private static int eliminate(Fraction[][] table, int columns) {
        int rank = 0;
        for (int c = 0; c < columns; c++) {
            int found = -1;
            for (int r = rank; r < table.length && found < 0; r++) if (!table[r][c].isZero()) found = r;
            if (found < 0) continue;
            Fraction[] pivot = table[found];
            table[found] = table[rank];
            table[rank] = pivot;
            Fraction lead = pivot[c];
            for (int k = 0; k < pivot.length; k++) pivot[k] = pivot[k].over(lead);
            for (int r = 0; r < table.length; r++) {
                if (r == rank || table[r][c].isZero()) continue;
                Fraction factor = table[r][c];
                for (int k = 0; k < pivot.length; k++) table[r][k] = table[r][k].minus(factor.times(pivot[k]));
            }
            rank++;
        }
        return rank;
    }

    private static int rankOf(State state, List<Numbered> list, boolean drift) {
        Fraction[][] table = new Fraction[list.size()][];
        for (int r = 0; r < table.length; r++) table[r] = columns(state, list.get(r), drift);
        return eliminate(table, state.n + (drift ? 1 : 0));
    }

    private static Fraction read(State state, Numbered w) {
        return Fraction.of(w.w().reading() - (long) w.w().signs()[0] * state.m);
    }

    private static Fraction restOf(State state, Numbered w, Fraction[] values, boolean drift) {
        Fraction left = read(state, w);
        Fraction[] row = columns(state, w, drift);
        for (int i = 0; i < row.length; i++) left = left.minus(row[i].times(values[i]));
        return left;
    }

    private static Solution solve(State state, List<Numbered> list, boolean drift) {
        int k = state.n + (drift ? 1 : 0);
        if (rankOf(state, list, drift) != k) return null;
        Fraction[][] table = new Fraction[k][2 * k + 1];
        for (int r = 0; r < k; r++) {
            for (int c = 0; c < table[r].length; c++) table[r][c] = Fraction.of(c == k + r ? 1 : 0);
            for (Numbered w : list) {
                Fraction[] row = columns(state, w, drift);
                for (int c = 0; c < k; c++) table[r][c] = table[r][c].plus(row[r].times(row[c]));
                table[r][2 * k] = table[r][2 * k].plus(row[r].times(read(state, w)));
            }
        }
        eliminate(table, k);
        Fraction[] values = new Fraction[k];
        Fraction[] spreads = new Fraction[k];
        Fraction total = Fraction.ZERO;
        for (int i = 0; i < k; i++) {
            values[i] = table[i][2 * k];
            spreads[i] = table[i][k + i];
            if (i < state.n) total = total.plus(spreads[i]);
        }
        Fraction squares = Fraction.ZERO;
        for (Numbered w : list) {
            Fraction rest = restOf(state, w, values, drift);
            squares = squares.plus(rest.times(rest));
        }
        return new Solution(values, spreads, total, squares);
    }

    private Solution solution(boolean drift) {
        return solve(s, s.numbered(), drift);
    }

    int rank(boolean drift) {
        return rankOf(s, s.numbered(), drift);
    }

    private boolean hasWeight(int weight, boolean drift) {
        return weight >= 0 && (weight < s.n || weight == s.n && drift);
    }

    long value(int weight, boolean drift, boolean upper) {
        if (!hasWeight(weight, drift)) return UNKNOWN;
        Solution x = solution(drift);
        return x == null ? STATE : x.values()[weight].side(upper);
    }

    long spread(int weight, boolean drift, boolean upper) {
        if (!hasWeight(weight, drift)) return UNKNOWN;
        Solution x = solution(drift);
        return x == null ? STATE : x.spreads()[weight].side(upper);
    }

    long total(boolean drift, boolean upper) {
        Solution x = solution(drift);
        return x == null ? STATE : x.total().side(upper);
    }

    long rest(int weighing, boolean drift, boolean upper) {
        if (!has(weighing)) return UNKNOWN;
        Solution x = solution(drift);
        if (x == null) return STATE;
        return restOf(s, s.numbered().get(weighing), x.values(), drift).side(upper);
    }

    long squares(boolean drift, boolean upper) {
        Solution x = solution(drift);
        return x == null ? STATE : x.squares().side(upper);
    }

    int next(boolean drift) {
        if (s.ws.size() == 8) return FULL;
        int best = NONE;
        Fraction least = null;
        int bound = (int) Math.pow(10, s.n + 1);
        for (int code = 0; code < bound; code++) {
            int[] signs = signsOf(code, s.n);
            if (signs == null) continue;
            State tried = s.copy();
            tried.ws.add(new Weighing(signs, 17));
            Solution x = solve(tried, tried.numbered(), drift);
            if (x != null && (least == null || x.total().compareTo(least) < 0)) {
                best = code;
                least = x.total();
            }
        }
        return best;
    }

    int better() {
        Solution now = solution(true);
        if (now == null) return STATE;
        int best = NONE;
        Fraction least = now.total();
        for (int ab = 0; ab < 100; ab++) {
            int a = ab / 10;
            int b = ab % 10;
            if (a >= b || !has(b)) continue;
            State tried = s.copy();
            exchange(tried, a, b);
            Solution x = solve(tried, tried.numbered(), true);
            if (x != null && x.total().compareTo(least) < 0) {
                best = ab;
                least = x.total();
            }
        }
        return best;
    }

    private static Solution without(State state, int weighing, boolean drift) {
        List<Numbered> left = state.numbered();
        left.remove(weighing);
        return solve(state, left, drift);
    }

    private static int doubtfulOf(State state, boolean drift) {
        int best = NONE;
        Fraction least = null;
        for (int t = 0; t < state.ws.size(); t++) {
            Solution x = without(state, t, drift);
            if (x != null && (least == null || x.squares().compareTo(least) < 0)) {
                best = t;
                least = x.squares();
            }
        }
        return best;
    }

    int doubtful(boolean drift) {
        return doubtfulOf(s, drift);
    }

    int wrong(boolean drift) {
        int bits = 0;
        for (int t = 0; t < s.ws.size(); t++) {
            Solution x = without(s, t, drift);
            if (x != null && x.squares().isZero()) bits += 1 << t;
        }
        return bits;
    }

    int judge(int n, long row) {
        if (n < 1 || n > 4 || row < 0) return OUTSIDE;
        String figures = Long.toString(row);
        if (figures.length() > 4 * n) return OUTSIDE;
        while (figures.length() < 4 * n) figures = "0" + figures;
        State tried = s.copy();
        for (int place = 0; place < n; place++) {
            if (!doing(tried, figures.substring(4 * place, 4 * place + 4))) return place;
        }
        return NONE;
    }

    private static boolean doing(State state, String told) {
        int a = told.charAt(1) - '0';
        int b = told.charAt(2) - '0';
        int v = Integer.parseInt(told.substring(2));
        int many = state.ws.size();
        if (told.matches("1..0") && a < many && b < many && a != b) {
            exchange(state, a, b);
            return true;
        }
        if (told.matches("2.00") && a < many) {
            state.ws.remove(a);
            return true;
        }
        if (told.matches("3...") && a < state.n) {
            Solution x = solve(state, state.numbered(), false);
            return x != null && x.values()[a].compareTo(Fraction.of(v)) == 0;
        }
        if (told.matches("4.00")) return rankOf(state, state.numbered(), false) == a;
        if (told.matches("5.00") && a < many) return doubtfulOf(state, false) == a;
        if (told.matches("60..")) {
            state.m = v;
            return true;
        }
        return false;
    }

    // ---- shares, chances

    private int[] ranksOfSets(boolean drift) {
        List<Numbered> all = s.numbered();
        int[] ranks = new int[1 << all.size()];
        for (int set = 0; set < ranks.length; set++) {
            List<Numbered> some = new ArrayList<>();
            for (Numbered w : all) if ((set >> w.t() & 1) == 1) some.add(w);
            ranks[set] = rankOf(s, some, drift);
        }
        return ranks;
    }

    int share(int weighing, boolean drift, boolean upper) {
        if (!has(weighing)) return UNKNOWN;
        int[] ranks = ranksOfSets(drift);
        long[] sums = new long[2];
        orders(0, s.ws.size(), weighing, ranks, sums);
        return (int) Fraction.of(sums[0], sums[1]).side(upper);
    }

    /** Walks through each order: sums[0] of what the weighing adds, sums[1] how many orders. */
    private static void orders(int come, int many, int weighing, int[] ranks, long[] sums) {
        if (come == (1 << many) - 1) {
            sums[1]++;
            return;
        }
        for (int t = 0; t < many; t++) {
            int with = come | 1 << t;
            if (with == come) continue;
            long before = sums[1];
            orders(with, many, weighing, ranks, sums);
            if (t == weighing) sums[0] += (ranks[with] - ranks[come]) * (sums[1] - before);
        }
    }

    int lost(int x, boolean drift, boolean upper) {
        if (x < 0 || x > 10) return OUTSIDE;
        int[] ranks = ranksOfSets(drift);
        Fraction chance = Fraction.ZERO;
        for (int set = 0; set < ranks.length; set++) {
            if (ranks[set] != s.n + (drift ? 1 : 0)) continue;
            Fraction product = Fraction.of(1);
            for (int t = 0; t < s.ws.size(); t++) {
                product = product.times(Fraction.of((set >> t & 1) == 1 ? 10 - x : x, 10));
            }
            chance = chance.plus(product);
        }
        return (int) chance.side(upper);
    }

    long seed(long v) {
        long was = seed;
        seed = v;
        return was;
    }

    int drawn(int m) {
        if (m < 1 || m > 20) return OUTSIDE;
        int now = doubtfulOf(s, false);
        int often = 0;
        for (int i = 0; i < m; i++) {
            seed = seed * 6364136223846793005L + 1442695040888963407L;
            int v = (int) (seed >>> 33);
            State by = s.copy();
            for (int t = 0; t < by.ws.size(); t++) {
                int two = v >> 2 * t & 3;
                Weighing w = by.ws.get(t);
                int more = two == 0 ? -1 : two == 2 ? 1 : 0;
                by.ws.set(t, new Weighing(w.signs(), w.reading() + more));
            }
            if (doubtfulOf(by, false) == now) often++;
        }
        return often;
    }

    // ---- places to keep in

    int keep(int slot) {
        if (slot != 0 && slot != 1) return UNKNOWN;
        kept[slot] = s.copy();
        return s.ws.size();
    }

    int again(int slot) {
        if (slot != 0 && slot != 1) return UNKNOWN;
        if (kept[slot] == null) return STATE;
        s = kept[slot].copy();
        acts.clear();
        return s.ws.size();
    }

    int count(int what) {
        int[] counts = {text.length(), s.n, s.m, s.ws.size(), acts.size()};
        return what >= 0 && what < counts.length ? counts[what] : OUTSIDE;
    }
}
