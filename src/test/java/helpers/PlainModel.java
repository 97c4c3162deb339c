import java.lang.reflect.Array;
import java.util.ArrayList;
import java.util.Collections;
import java.util.Comparator;
import java.util.HashMap;
import java.util.HashSet;
import java.util.List;
import java.util.Map;
import java.util.Set;
import java.util.TreeSet;
import java.util.regex.Matcher;
import java.util.regex.Pattern;

/**
 * The document once more, written another way, with the whole Java library: lists that are sorted and turned, hours
 * that are laid out one by one, a pattern for THE TEXT, rows of the host's own sorts. RandomRunsTest holds the class
 * against it.
 */
public final class PlainModel {
    private static final long NO = Long.MIN_VALUE;
    private static final Pattern SETUP = clauses();

    private static final class State {
        int[] fill = {1, 1, 1, 1};
        int[] loss = {5, 5, 5, 5};
        List<int[]> fields = new ArrayList<>();
        int hours = 24;
        int week = 0;
        int rule = 0;
        List<int[]> trades = new ArrayList<>();
        List<int[]> seen = new ArrayList<>();
        List<int[]> plan = new ArrayList<>();
        List<int[]> book = new ArrayList<>();

        State copy() {
            State c = new State();
            c.fill = fill.clone();
            c.loss = loss.clone();
            c.fields = deep(fields);
            c.hours = hours;
            c.week = week;
            c.rule = rule;
            c.trades = deep(trades);
            c.seen = deep(seen);
            c.plan = deep(plan);
            c.book = deep(book);
            return c;
        }

        private static List<int[]> deep(List<int[]> rows) {
            List<int[]> copy = new ArrayList<>();
            for (int[] row : rows) {
                copy.add(row.clone());
            }
            return copy;
        }

        State without() {
            State c = copy();
            c.trades.clear();
            return c;
        }

        boolean has(int f) {
            return f >= 0 && f < fields.size();
        }

        boolean away(int f) {
            return fields.get(f)[2] == 1;
        }

        List<Integer> line() {
            List<Integer> line = new ArrayList<>();
            for (int f = 0; f < fields.size(); f++) {
                line.add(f);
            }
            line.sort(Comparator.comparingInt(f -> fields.get(f)[0]));
            return line;
        }

        List<Integer> turns() {
            List<Integer> turns = line();
            if (rule == 1) {
                Collections.rotate(turns, -week);
            } else if (rule == 2 && week % 2 == 1) {
                Collections.reverse(turns);
            } else if (rule == 3) {
                Collections.rotate(turns, week);
            }
            turns.removeIf(this::away);
            return turns;
        }

        List<Integer> lags() {
            List<Integer> lags = new ArrayList<>();
            Integer before = null;
            for (int f : turns()) {
                int to = fields.get(f)[0];
                int lag = 0;
                for (int r = 0; r < 4; r++) {
                    if (r <= to && (before == null || r > before)) {
                        lag += fill[r];
                    }
                }
                lags.add(lag);
                before = to;
            }
            return lags;
        }

        int allLags() {
            return lags().stream().mapToInt(i -> i).sum();
        }

        int left() {
            return Math.max(0, hours - allLags());
        }

        Map<Integer, Integer> sharedOut(int n, List<Integer> among) {
            Map<Integer, Integer> got = new HashMap<>();
            int all = among.stream().mapToInt(f -> fields.get(f)[1]).sum();
            List<Integer> byRest = new ArrayList<>(among);
            Collections.sort(byRest);
            int given = 0;
            for (int f : among) {
                int cut = n * fields.get(f)[1] / all;
                got.put(f, cut);
                given += cut;
            }
            byRest.sort((f, g) -> Integer.compare(n * fields.get(g)[1] % all, n * fields.get(f)[1] % all));
            for (int i = 0; i < n - given; i++) {
                got.merge(byRest.get(i), 1, Integer::sum);
            }
            return got;
        }

        int[] have() {
            int[] have = new int[fields.size()];
            if (have.length == 0) {
                return have;
            }
            sharedOut(left(), line()).forEach((f, h) -> have[f] = h);
            List<Integer> present = line();
            present.removeIf(this::away);
            for (int f = 0; f < have.length; f++) {
                if (away(f)) {
                    int hours = have[f];
                    have[f] = 0;
                    int reach = fields.get(f)[0];
                    List<Integer> near = new ArrayList<>(present);
                    near.removeIf(g -> fields.get(g)[0] != reach);
                    List<Integer> to = near.isEmpty() ? present : near;
                    if (!to.isEmpty()) {
                        sharedOut(hours, to).forEach((g, h) -> have[g] += h);
                    }
                }
            }
            for (int[] trade : trades) {
                have[trade[0]] -= trade[2];
                have[trade[1]] += trade[2];
            }
            return have;
        }

        /** Who has each hour; -5: none. */
        List<Integer> laidOut() {
            List<Integer> hoursOf = new ArrayList<>();
            List<Integer> turns = turns();
            List<Integer> lags = lags();
            int[] have = have();
            for (int k = 0; k < turns.size(); k++) {
                hoursOf.addAll(Collections.nCopies(lags.get(k), -5));
                hoursOf.addAll(Collections.nCopies(have[turns.get(k)], turns.get(k)));
            }
            return hoursOf;
        }

        int begins(int f) {
            List<Integer> turns = turns();
            int k = turns.indexOf(f);
            if (k < 0) {
                return -5;
            }
            int[] have = have();
            int t = 0;
            for (int i = 0; i <= k; i++) {
                t += lags().get(i) + (i < k ? have[turns.get(i)] : 0);
            }
            return t;
        }

        int night(int f) {
            int night = 0;
            List<Integer> hoursOf = laidOut();
            for (int t = 0; t < hoursOf.size(); t++) {
                int clock = (week * hours + t) % 24;
                night += hoursOf.get(t) == f && !(clock >= 6 && clock <= 17) ? 1 : 0;
            }
            return night;
        }

        int allNight() {
            int night = 0;
            for (int f = 0; f < fields.size(); f++) {
                night += night(f);
            }
            return night;
        }

        int water(int f) {
            int lost = 0;
            for (int r = 0; r <= fields.get(f)[0]; r++) {
                lost += loss[r];
            }
            return have()[f] * (100 - lost);
        }

        int allWater() {
            int water = 0;
            for (int f = 0; f < fields.size(); f++) {
                water += water(f);
            }
            return water;
        }

        int uneven(int n) {
            TreeSet<Integer> nights = new TreeSet<>();
            for (int f = 0; f < fields.size(); f++) {
                if (!away(f)) {
                    nights.add(over(f, n, 1, without()));
                }
            }
            return nights.isEmpty() ? 0 : nights.last() - nights.first();
        }

        static int over(int f, int n, int what, State from) {
            int all = 0;
            State s = from.copy();
            for (int i = 0; i < n; i++) {
                all += what == 0 ? s.have()[f] : s.night(f);
                s.trades.clear();
                s.week++;
            }
            return all;
        }
    }

    private State s = new State();
    private State image = null;
    private final StringBuilder text = new StringBuilder();
    private final Object[] tapes = new Object[6];

    private static Pattern clauses() {
        String clause = "(f[0-9]{2}|c[0-9]{3,4}|h[0-9]{1,2}|[uap][0-9])";
        return Pattern.compile(clause + "(;" + clause + "){0,11}");
    }

    private static boolean in(int v, int least, int most) {
        return v >= least && v <= most;
    }

    private int changed(int answer) {
        s.trades.clear();
        return answer;
    }

    public int field(int reach, int share) {
        if (!in(reach, 0, 3) || !in(share, 1, 9)) {
            return -2;
        }
        if (s.fields.size() == 8) {
            return -4;
        }
        s.fields.add(new int[] {reach, share, 0});
        return changed(s.fields.size() - 1);
    }

    public int renew(int field, int what, int v) {
        if (!s.has(field) || !in(what, 0, 1)) {
            return -1;
        }
        if (what == 0 ? !in(v, 0, 3) : !in(v, 1, 9)) {
            return -2;
        }
        int was = s.fields.get(field)[what];
        s.fields.get(field)[what] = v;
        return changed(was);
    }

    public int absent(int field, boolean isAbsent) {
        if (!s.has(field)) {
            return -1;
        }
        int was = s.fields.get(field)[2];
        s.fields.get(field)[2] = isAbsent ? 1 : 0;
        return changed(was);
    }

    public int reach(int reach, int what, int v) {
        if (!in(reach, 0, 3) || !in(what, 0, 1)) {
            return -1;
        }
        if (!in(v, 0, what == 0 ? 9 : 25)) {
            return -2;
        }
        int[] row = what == 0 ? s.fill : s.loss;
        int was = row[reach];
        row[reach] = v;
        return changed(was);
    }

    public int reachOf(int reach, int what) {
        if (!in(reach, 0, 3) || !in(what, 0, 2)) {
            return -1;
        }
        return what == 0 ? s.fill[reach] : what == 1 ? s.loss[reach]
            : (int) s.fields.stream().filter(f -> f[0] == reach).count();
    }

    public int hours(int h) {
        if (!in(h, 8, 96)) {
            return -2;
        }
        int was = s.hours;
        s.hours = h;
        return changed(was);
    }

    public int rule(int r) {
        if (!in(r, 0, 3)) {
            return -2;
        }
        int was = s.rule;
        s.rule = r;
        return changed(was);
    }

    public int pass(int n) {
        if (!in(n, 0, 52)) {
            return -2;
        }
        if (s.week + n > 999) {
            return -4;
        }
        s.week += n;
        return changed(s.week);
    }

    public int of(int field, int what) {
        if (!s.has(field) || !in(what, 0, 8)) {
            return -1;
        }
        if (what < 3) {
            return s.fields.get(field)[what];
        }
        int place = s.turns().indexOf(field);
        int[] answers = {s.have()[field], s.begins(field), s.away(field) ? -5 : s.begins(field) + s.have()[field],
            s.night(field), s.water(field), place < 0 ? -5 : place};
        return answers[what - 3];
    }

    public int feed(int sign) {
        if (!in(sign, 0, 127)) {
            return -2;
        }
        if (text.length() == 100) {
            return -4;
        }
        text.append((char) sign);
        return text.length();
    }

    public int read() {
        String setUp = text.toString();
        text.setLength(0);
        if (!SETUP.matcher(setUp).matches()) {
            return -10 - fault(setUp);
        }
        int done = 0;
        for (String clause : setUp.split(";")) {
            done += isDone(clause) ? 1 : 0;
        }
        return done;
    }

    private static int fault(String setUp) {
        for (int p = 0; p < setUp.length(); p++) {
            Matcher m = SETUP.matcher(setUp.substring(0, p + 1));
            if (!m.matches() && !m.hitEnd()) {
                return p;
            }
        }
        return setUp.length();
    }

    private boolean isDone(String c) {
        int first = c.charAt(1) - '0';
        switch (c.charAt(0)) {
            case 'f':
                return field(first, c.charAt(2) - '0') >= 0;
            case 'c':
                int loss = Integer.parseInt(c.substring(3));
                if (first > 3 || loss > 25) {
                    return false;
                }
                return reach(first, 0, c.charAt(2) - '0') >= 0 && reach(first, 1, loss) >= 0;
            case 'h':
                return hours(Integer.parseInt(c.substring(1))) >= 0;
            case 'u':
                return rule(first) >= 0;
            default:
                return absent(first, c.charAt(0) == 'a') >= 0;
        }
    }

    private static int at(List<Integer> list, int k) {
        return k < 0 || k >= list.size() ? -1 : list.get(k);
    }

    public int turn(int k) {
        return at(s.turns(), k);
    }

    public int lag(int k) {
        return at(s.lags(), k);
    }

    public int line(int k) {
        return at(s.line(), k);
    }

    public int who(int t) {
        if (!in(t, 0, 95)) {
            return -2;
        }
        List<Integer> hoursOf = s.laidOut();
        return t < hoursOf.size() ? hoursOf.get(t) : -5;
    }

    public int shared(int n, int field) {
        return !s.has(field) ? -1 : !in(n, 0, 999) ? -2 : s.sharedOut(n, s.line()).get(field);
    }

    public int told(int what) {
        switch (what) {
            case 0: return s.fields.size();
            case 1: return s.hours;
            case 2: return s.rule;
            case 3: return s.week;
            case 4: return s.allLags();
            case 5: return s.left();
            case 6: return java.util.Arrays.stream(s.have()).sum();
            case 7: return s.turns().size();
            case 8: return s.allWater();
            case 9: return s.trades.size();
            case 10: return s.allNight();
            case 11: return less();
            default: return -1;
        }
    }

    private int less() {
        State now = s.without();
        State more = s.without();
        more.hours++;
        int bits = 0;
        for (int f = 0; f < s.fields.size(); f++) {
            bits += more.have()[f] < now.have()[f] ? 1 << f : 0;
        }
        return bits;
    }

    public int trade(int a, int b, int h) {
        if (!s.has(a) || !s.has(b) || a == b) {
            return -1;
        }
        if (!in(h, 1, 96)) {
            return -2;
        }
        if (s.away(a) || s.away(b) || s.have()[a] < h) {
            return -3;
        }
        if (s.trades.size() == 12) {
            return -4;
        }
        s.trades.add(new int[] {a, b, h});
        return s.trades.size();
    }

    public int undoTrade() {
        if (s.trades.isEmpty()) {
            return -3;
        }
        s.trades.remove(s.trades.size() - 1);
        return s.trades.size();
    }

    public int tradeOf(int k, int what) {
        return in(k, 0, s.trades.size() - 1) && in(what, 0, 2) ? s.trades.get(k)[what] : -1;
    }

    public int chain(int field) {
        if (!s.has(field)) {
            return -1;
        }
        Set<Integer> reached = new HashSet<>();
        follow(field, 0, reached);
        return reached.stream().mapToInt(f -> 1 << f).sum();
    }

    private void follow(int from, int since, Set<Integer> reached) {
        for (int k = since; k < s.trades.size(); k++) {
            if (s.trades.get(k)[0] == from) {
                reached.add(s.trades.get(k)[1]);
                follow(s.trades.get(k)[1], k + 1, reached);
            }
        }
    }

    public int over(int field, int n, int what) {
        return !s.has(field) || !in(what, 0, 1) ? -1 : !in(n, 1, 12) ? -2 : State.over(field, n, what, s);
    }

    public int uneven(int n) {
        return in(n, 1, 12) ? s.uneven(n) : -2;
    }

    public int evenest(int n) {
        if (!in(n, 1, 12)) {
            return -2;
        }
        List<Integer> rules = new ArrayList<>(List.of(0, 1, 2, 3));
        Map<Integer, Integer> by = new HashMap<>();
        for (int r : rules) {
            State c = s.copy();
            c.rule = r;
            by.put(r, c.uneven(n));
        }
        rules.sort(Comparator.comparing(by::get));
        return rules.get(0);
    }

    private int told(List<int[]> rows, int most, int f, int h) {
        if (f == -1) {
            rows.clear();
            return 0;
        }
        if (!s.has(f)) {
            return -1;
        }
        if (!in(h, 0, 96)) {
            return -2;
        }
        if (rows.size() == most) {
            return -4;
        }
        rows.add(new int[] {f, h});
        return rows.size();
    }

    public int see(int field, int h) {
        return told(s.seen, 5, field, h);
    }

    public int fits(int what) {
        if (!in(what, 0, 1)) {
            return -1;
        }
        List<Integer> fit = new ArrayList<>();
        for (int h = 8; h <= 96; h++) {
            State c = s.without();
            c.hours = h;
            int[] have = c.have();
            if (s.seen.stream().allMatch(row -> have[row[0]] == row[1])) {
                fit.add(h);
            }
        }
        return what == 0 ? fit.size() : fit.isEmpty() ? -5 : fit.get(0);
    }

    private static long lowest(int above, int below, int part) {
        int by = java.math.BigInteger.valueOf(above).gcd(java.math.BigInteger.valueOf(below)).intValue();
        return part == 0 ? above / by : below / by;
    }

    public long odds(int field, int part) {
        if (!s.has(field) || !in(part, 0, 1)) {
            return NO;
        }
        int nights = 0;
        for (int h = 20; h < 30; h++) {
            State c = s.without();
            c.hours = h;
            nights += c.night(field) > 0 ? 1 : 0;
        }
        return lowest(nights, 10, part);
    }

    public long mean(int part) {
        return !in(part, 0, 1) || s.fields.isEmpty() ? NO : lowest(s.allWater(), s.fields.size(), part);
    }

    public int plan(int what, int n) {
        if (what == -1) {
            s.plan.clear();
            return 0;
        }
        if (!in(what, 0, 3) || what == 0 && !s.has(n)) {
            return -1;
        }
        int[] least = {0, 0, 0, 8};
        int[] most = {7, 52, 3, 96};
        if (!in(n, least[what], most[what])) {
            return -2;
        }
        if (s.plan.size() == 8) {
            return -4;
        }
        s.plan.add(new int[] {what, n});
        return s.plan.size();
    }

    public int ends(int what) {
        if (!in(what, 0, 2)) {
            return -1;
        }
        State c = s.copy();
        for (int[] row : s.plan) {
            c.trades.clear();
            switch (row[0]) {
                case 0: c.fields.get(row[1])[2] ^= 1; break;
                case 1: c.week = Math.min(999, c.week + row[1]); break;
                case 2: c.rule = row[1]; break;
                default: c.hours = row[1];
            }
        }
        return what == 0 ? c.allWater() : what == 1 ? c.allLags() : c.allNight();
    }

    public int book(int field, int h) {
        return told(s.book, 8, field, h);
    }

    public int looked() {
        int[] have = s.have();
        for (int[] row : s.book) {
            if (have[row[0]] != row[1]) {
                return s.book.indexOf(row);
            }
        }
        return -5;
    }

    public int judge(int tape, int i) {
        if (!in(tape, 0, 5)) {
            return -1;
        }
        if (tapes[tape] != null && !(tapes[tape] instanceof byte[])) {
            return -12;
        }
        if (s.fields.isEmpty()) {
            return -5;
        }
        byte[] row = tapes[tape] == null ? new byte[0] : (byte[]) tapes[tape];
        int[] have = s.have();
        for (int f = 0; f < have.length; f++) {
            long at = (long) i + f;
            if (i < 0 || at >= row.length) {
                return 100 + f;
            }
            if (row[(int) at] != have[f]) {
                return f;
            }
        }
        return -5;
    }

    public int image() {
        image = s.copy();
        return s.fields.size();
    }

    public int undo() {
        if (image == null) {
            return -3;
        }
        s = image.copy();
        return s.fields.size();
    }

    public int count(int what) {
        int[] sizes = {s.fields.size(), s.seen.size(), s.plan.size(), s.book.size(), text.length()};
        return in(what, 0, 4) ? sizes[what] : -2;
    }

    public int tape(int tape, int sort, int n) {
        if (!in(tape, 0, 5)) {
            return -1;
        }
        if (!in(sort, -1, 4) || sort != -1 && n > 60) {
            return -2;
        }
        Class<?>[] sorts = {byte.class, short.class, int.class, long.class, boolean.class};
        try {
            tapes[tape] = sort == -1 ? null : Array.newInstance(sorts[sort], n);
        } catch (NegativeArraySizeException e) {
            return -14;
        }
        return 1;
    }

    public int item(int tape, int i, long v) {
        if (!in(tape, 0, 5)) {
            return -1;
        }
        Object row = tapes[tape];
        if (row == null) {
            return -11;
        }
        if (i < 0 || i >= Array.getLength(row)) {
            return -13;
        }
        if (row instanceof byte[] b) {
            b[i] = (byte) v;
        } else if (row instanceof short[] b) {
            b[i] = (short) v;
        } else if (row instanceof int[] b) {
            b[i] = (int) v;
        } else if (row instanceof long[] b) {
            b[i] = v;
        } else if (row instanceof boolean[] b) {
            b[i] = v != 0;
        }
        return 1;
    }

    public long peek(int tape, int i) {
        if (!in(tape, 0, 5) || tapes[tape] == null || !in(i, 0, Array.getLength(tapes[tape]) - 1)) {
            return NO;
        }
        return tapes[tape] instanceof boolean[] b ? (b[i] ? 1 : 0) : Array.getLong(tapes[tape], i);
    }

    public int shift(int tape, int i, int other, int j, int n) {
        if (!in(tape, 0, 5) || !in(other, 0, 5)) {
            return -1;
        }
        try {
            System.arraycopy(tapes[tape], i, tapes[other], j, n);
            return n;
        } catch (NullPointerException e) {
            return -11;
        } catch (ArrayStoreException e) {
            return -12;
        } catch (IndexOutOfBoundsException e) {
            return -13;
        }
    }
}
