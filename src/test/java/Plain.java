import java.math.BigInteger;
import java.util.ArrayDeque;
import java.util.ArrayList;
import java.util.Arrays;
import java.util.HashMap;
import java.util.HashSet;
import java.util.List;
import java.util.Map;
import java.util.NoSuchElementException;
import java.util.Set;

/**
 * The document read a second time, as slowly and plainly as can be: every state is a new object,
 * rules are worked out from their text each time, questions try all there is. The random runs hold
 * the class against it.
 */
final class Plain {
    record Brother(int gravity, int thought, int place) { }

    record State(List<Brother> brothers, int sail, int lean, int leagues, int overs, int hour) {
        State with(int b, Brother brother) {
            List<Brother> all = new ArrayList<>(brothers);
            all.set(b, brother);
            return new State(all, sail, lean, leagues, overs, hour);
        }

        State withSail(int v) {
            return new State(brothers, v, lean, leagues, overs, hour);
        }
    }

    private String text = "";
    private int[] prices = {0, 1, 3, 5, 7, 9};
    private int[] winds = {0};
    private String rule = "";
    private State now = new State(List.of(), 5, 0, 0, 0, 0);
    private List<Long> row = new ArrayList<>();
    private final ArrayDeque<State> undone = new ArrayDeque<>();
    private final State[] kept = new State[2];
    private final List<int[]> seen = new ArrayList<>();
    private final List<int[]> heard = new ArrayList<>();

    // ---- weights

    private int weight(State s, int b, String by) {
        Brother x = s.brothers.get(b);
        int k = 0;
        for (int o = 0; o < s.brothers.size(); o++) {
            if (o != b && s.brothers.get(o).thought == x.thought) {
                k++;
            }
        }
        Map<Character, Integer> things = new HashMap<>();
        things.put('g', x.gravity);
        things.put('t', prices[x.thought]);
        things.put('k', k);
        things.put('p', Math.abs(x.place));
        things.put('l', Math.abs(s.lean));
        things.put('i', b);
        things.put('n', s.hour % 7);
        int v = new Reading(by.isEmpty() ? "g+t" : by, things).whole();
        return Math.max(0, Math.min(20, v));
    }

    /** A rule read by going down its grammar; whole() throws IllegalArgumentException if it is none. */
    static final class Reading {
        private final String s;
        private final Map<Character, Integer> things;
        private int at;

        Reading(String s, Map<Character, Integer> things) {
            this.s = s;
            this.things = things;
        }

        int whole() {
            int v = expression(0);
            if (at != s.length()) {
                throw new IllegalArgumentException();
            }
            return v;
        }

        private char sign() {
            return at < s.length() ? s.charAt(at) : (char) 300;
        }

        private int expression(int deep) {
            int left = sum(deep);
            char c = sign();
            if (c != '<' && c != '>' && c != '=') {
                return left;
            }
            at++;
            int right = sum(deep);
            return (c == '<' ? left < right : c == '>' ? left > right : left == right) ? 1 : 0;
        }

        private int sum(int deep) {
            int v = product(deep);
            while (sign() == '+' || sign() == '-') {
                char c = s.charAt(at++);
                int w = product(deep);
                v = c == '+' ? v + w : v - w;
            }
            return v;
        }

        private int product(int deep) {
            int v = negated(deep);
            while (sign() == '*' || sign() == '/') {
                char c = s.charAt(at++);
                int w = negated(deep);
                v = c == '*' ? v * w : w == 0 ? 0 : v / w;
            }
            return v;
        }

        private int negated(int deep) {
            if (sign() == '-') {
                at++;
                return -negated(deep);
            }
            if (sign() == '(' && deep < 4) {
                at++;
                int v = expression(deep + 1);
                if (sign() != ')') {
                    throw new IllegalArgumentException();
                }
                at++;
                return v;
            }
            if (things.containsKey(sign())) {
                return things.get(s.charAt(at++));
            }
            int from = at;
            while (at - from < 3 && sign() >= '0' && sign() <= '9') {
                at++;
            }
            if (at == from) {
                throw new IllegalArgumentException();
            }
            return Integer.parseInt(s.substring(from, at));
        }
    }

    private static boolean isRule(String s) {
        Map<Character, Integer> things = new HashMap<>();
        for (char c : "gtkplin".toCharArray()) {
            things.put(c, 1);
        }
        try {
            new Reading(s, things).whole();
            return true;
        } catch (IllegalArgumentException e) {
            return false;
        }
    }

    /** A beginning can go on or end, if one of a few ends makes it whole. */
    private static boolean canGoOn(String s) {
        for (String thing : new String[] {"", "g"}) {
            for (String close : new String[] {"", ")", "))", ")))", "))))"}) {
                if (isRule(s + thing + close)) {
                    return true;
                }
            }
        }
        return false;
    }

    private static int ruleFault(String s) {
        if (s.isEmpty()) {
            return -1;
        }
        for (int p = 0; p < s.length(); p++) {
            if (p == 40 || !canGoOn(s.substring(0, p + 1))) {
                return p;
            }
        }
        return isRule(s) ? -1 : s.length();
    }

    private int wind(int hour) {
        return winds[hour % winds.length];
    }

    private int moment(State s, String by, int wind) {
        int m = 2 * wind * s.sail;
        for (int b = 0; b < s.brothers.size(); b++) {
            m += weight(s, b, by) * s.brothers.get(b).place;
        }
        return m;
    }

    private static int cap(int v, int low, int high) {
        return Math.max(low, Math.min(high, v));
    }

    private int pull(State s) {
        return cap(moment(s, rule, wind(s.hour)) / 8, -20, 20);
    }

    /** For the random runs, which want to see what is so now. */
    int pullNow() {
        return pull(now);
    }

    int pullIf(int wind, int sail) {
        return cap(moment(now.withSail(sail), rule, wind) / 8, -20, 20);
    }

    private State hour(State s, String by, int wind) {
        int pull = cap(moment(s, by, wind) / 8, -20, 20);
        int lean = s.lean;
        int steps = Math.abs(pull - lean) >= 6 ? 2 : 1;
        for (int i = 0; i < steps; i++) {
            if (lean < pull) {
                lean++;
            } else if (lean > pull) {
                lean--;
            }
        }
        int more = Math.abs(wind * s.sail) / 3 - Math.abs(lean) / 2;
        int leagues = more > 0 ? Math.min(9999, s.leagues + more) : s.leagues;
        boolean over = Math.abs(lean) >= 15;
        return new State(s.brothers, over ? 0 : s.sail, lean, leagues,
                over ? Math.min(999, s.overs + 1) : s.overs, s.hour + 1);
    }

    /** How it is behind 0, 1, .. n hours. */
    private List<State> ahead(State from, int n, String by) {
        List<State> all = new ArrayList<>(List.of(from));
        for (int i = 0; i < n; i++) {
            State s = all.get(i);
            all.add(hour(s, by, wind(s.hour)));
        }
        return all;
    }

    private static int oversIn(List<State> all) {
        int n = 0;
        for (int i = 1; i < all.size(); i++) {
            n += Math.abs(all.get(i).lean) >= 15 ? 1 : 0;
        }
        return n;
    }

    private void tell(long... numbers) {
        row = new ArrayList<>();
        for (long n : numbers) {
            row.add(n);
        }
    }

    private String read() {
        String s = text;
        text = "";
        return s;
    }

    private boolean has(int b) {
        return b >= 0 && b < now.brothers.size();
    }

    private static boolean in(int v, int low, int high) {
        return low <= v && v <= high;
    }

    // ---- thoughts, brothers, winds

    int sign(int v) {
        if (text.length() > 76) {
            return -1;
        }
        StringBuilder s = new StringBuilder(text);
        for (byte b : new byte[] {(byte) (v >>> 24), (byte) (v >>> 16), (byte) (v >>> 8), (byte) v}) {
            s.append((char) Byte.toUnsignedInt(b));
        }
        text = s.toString();
        return text.length();
    }

    boolean end(int n) {
        if (n < 0 || n > text.length()) {
            return false;
        }
        text = text.substring(0, n);
        return true;
    }

    /** The first place where no beginning of a text of a pattern is any more; the end, if it is none. */
    private static int fault(String s, String pattern, int most) {
        java.util.regex.Pattern p = java.util.regex.Pattern.compile(pattern, java.util.regex.Pattern.DOTALL);
        for (int i = 1; i <= s.length(); i++) {
            java.util.regex.Matcher m = p.matcher(s.substring(0, i));
            if (i > most || !m.matches() && !m.hitEnd()) {
                return i - 1;
            }
        }
        return p.matcher(s).matches() ? -1 : s.length();
    }

    int thoughts() {
        String s = read();
        int f = fault(s, "[0-9]{6}", 99);
        if (f >= 0) {
            return -1 - f;
        }
        int sum = 0;
        prices = new int[6];
        for (int i = 0; i < 6; i++) {
            prices[i] = Character.digit(s.charAt(i), 10);
            sum += prices[i];
        }
        return sum;
    }

    int brothers() {
        String s = read();
        if (s.isEmpty()) {
            return 0;
        }
        int f = fault(s, "[0-9][0-5][+-][0-5](;[0-9][0-5][+-][0-5])*", 34);
        int noRoom = 5 * (7 - now.brothers.size());
        if (noRoom < s.length() && (f < 0 || f > noRoom)) {
            f = noRoom;
        }
        if (f >= 0) {
            return -1 - f;
        }
        List<Brother> all = new ArrayList<>(now.brothers);
        String[] lines = s.split(";");
        for (String line : lines) {
            all.add(new Brother(line.charAt(0) - '0', line.charAt(1) - '0', Integer.parseInt(line.substring(2))));
        }
        now = new State(all, now.sail, now.lean, now.leagues, now.overs, now.hour);
        undone.clear();
        kept[0] = null;
        kept[1] = null;
        return lines.length;
    }

    int winds() {
        String s = read();
        int f = fault(s, "([+-][0-9])+", 40);
        if (f >= 0) {
            return -1 - f;
        }
        winds = new int[s.length() / 2];
        for (int i = 0; i < winds.length; i++) {
            winds[i] = Integer.parseInt(s.substring(2 * i, 2 * i + 2));
        }
        return winds.length;
    }

    int rule() {
        String s = read();
        int f = ruleFault(s);
        if (f >= 0) {
            return -1 - f;
        }
        rule = s;
        return 0;
    }

    int brother(int b, int what) {
        if (!has(b) || !in(what, 0, 3)) {
            throw new NoSuchElementException();
        }
        Brother x = now.brothers.get(b);
        return new int[] {x.gravity, x.thought, 10 + x.place, weight(now, b, rule)}[what];
    }

    int price(int t) {
        if (!in(t, 0, 5)) {
            throw new NoSuchElementException();
        }
        return prices[t];
    }

    int sheet(int kind, int n, int f, int step) {
        if (!in(kind, 0, 3) || n > 7) {
            return -1;
        }
        if (kind < 3 && n < 0) {
            return -2;
        }
        int sum = 0;
        for (int b = 0; b < now.brothers.size(); b++) {
            int g = 0;
            if (kind < 3 && b < n) {
                long e = (long) f + (long) b * step;
                g = kind == 0 ? (byte) e : kind == 1 ? (short) e : (int) e;
            }
            g = cap(g, 0, 9);
            sum += g;
            now = now.with(b, new Brother(g, now.brothers.get(b).thought, now.brothers.get(b).place));
        }
        return kind == 3 ? -3 : sum;
    }

    // ---- hours, tellings

    private void keepUndo(State before) {
        undone.addLast(before);
        if (undone.size() > 12) {
            undone.removeFirst();
        }
    }

    int hours(int n) {
        if (!in(n, 0, 60)) {
            return -1;
        }
        List<State> all = ahead(now, n, rule);
        State before = now;
        now = all.get(n);
        if (n > 0) {
            keepUndo(before);
        }
        tell(now.leagues - before.leagues, oversIn(all));
        return 100 + now.lean;
    }

    int tells(int b, int t) {
        if (!has(b) || !in(t, 0, 5)) {
            return -1;
        }
        Brother x = now.brothers.get(b);
        if (x.thought == t) {
            return -2;
        }
        keepUndo(now);
        now = now.with(b, new Brother(x.gravity, t, x.place));
        return 10 + x.thought;
    }

    int moves(int b, int p) {
        if (!has(b) || !in(p, -5, 5)) {
            return -1;
        }
        Brother x = now.brothers.get(b);
        if (x.place == p) {
            return -2;
        }
        keepUndo(now);
        now = now.with(b, new Brother(x.gravity, x.thought, p));
        return Math.abs(x.place - p);
    }

    int eases(int b) {
        if (!has(b)) {
            return -1;
        }
        Brother x = now.brothers.get(b);
        if (x.gravity == 0) {
            return -2;
        }
        keepUndo(now);
        now = now.with(b, new Brother(x.gravity - 1, x.thought, x.place));
        return x.gravity - 1;
    }

    int preaches(int b, int n) {
        if (!has(b) || !in(n, 1, 9)) {
            return -1;
        }
        Brother x = now.brothers.get(b);
        if (x.gravity == 9) {
            return -2;
        }
        keepUndo(now);
        now = now.with(b, new Brother(Math.min(9, x.gravity + n), x.thought, x.place));
        return Math.min(9, x.gravity + n);
    }

    int sails(int v) {
        if (!in(v, 0, 9)) {
            return -1;
        }
        if (now.sail == v) {
            return -2;
        }
        int was = now.sail;
        keepUndo(now);
        now = now.withSail(v);
        return 10 + was;
    }

    int watch() {
        String s = read();
        String act = "(n[0-9]|t[0-9][0-5]|m[0-9][+-][0-5]|e[0-9]|p[0-9][1-9]|s[0-9])";
        int f = fault(s, act + "*", 60);
        if (f >= 0) {
            return -1 - f;
        }
        State before = now;
        List<State> past = new ArrayList<>(undone);
        int done = 0;
        boolean failed = false;
        java.util.regex.Matcher m = java.util.regex.Pattern.compile(act).matcher(s);
        while (!failed && m.find()) {
            String a = m.group();
            int b = a.charAt(1) - '0';
            int answer = switch (a.charAt(0)) {
                case 'n' -> hours(b);
                case 't' -> tells(b, a.charAt(2) - '0');
                case 'm' -> moves(b, Integer.parseInt(a.substring(2)));
                case 'e' -> eases(b);
                case 'p' -> preaches(b, a.charAt(2) - '0');
                default -> sails(b);
            };
            failed = answer < 0;
            done += failed ? 0 : 1;
        }
        undone.clear();
        undone.addAll(past);
        if (done > 0) {
            keepUndo(before);
        }
        tell(failed ? 1 : 0, 100 + now.lean);
        return done;
    }

    int undo() {
        if (undone.isEmpty()) {
            return -1;
        }
        now = undone.removeLast();
        return undone.size();
    }

    // ---- how she lies

    int moment() {
        int right = 0;
        int left = 0;
        for (int b = 0; b < now.brothers.size(); b++) {
            int p = now.brothers.get(b).place;
            if (p > 0) {
                right += weight(now, b, rule) * p;
            } else {
                left -= weight(now, b, rule) * p;
            }
        }
        tell(100 + pull(now), right, left);
        return 1000 + moment(now, rule, wind(now.hour));
    }

    int later(int n) {
        if (!in(n, 0, 99)) {
            return -1;
        }
        State s = ahead(now, n, rule).get(n);
        tell(s.leagues - now.leagues, s.sail);
        return 100 + s.lean;
    }

    int over() {
        List<State> all = ahead(now, 99, rule);
        for (int i = 1; i <= 99; i++) {
            if (Math.abs(all.get(i).lean) >= 15) {
                tell(100 + all.get(i).lean);
                return i;
            }
        }
        return -2;
    }

    int when(int v) {
        if (!in(v, -20, 20)) {
            return -1;
        }
        List<State> all = ahead(now, 99, rule);
        List<Integer> at = new ArrayList<>();
        for (int i = 0; i < 100; i++) {
            if (all.get(i).lean == v) {
                at.add(i);
            }
        }
        if (at.isEmpty()) {
            return -2;
        }
        tell(at.size());
        return at.get(0);
    }

    int rolls(int n) {
        if (!in(n, 0, 99)) {
            return -1;
        }
        List<Integer> leans = new ArrayList<>();
        for (State s : ahead(now, n, rule)) {
            leans.add(s.lean);
        }
        int most = java.util.Collections.max(leans);
        int least = java.util.Collections.min(leans);
        tell(leans.indexOf(most), 100 + least, leans.indexOf(least));
        return 100 + most;
    }

    int steady(int n, int v) {
        if (!in(n, 1, 99) || !in(v, 0, 20)) {
            return -1;
        }
        List<State> all = ahead(now, n, rule);
        int best = 0;
        int from = 0;
        for (int a = 1; a <= n; a++) {
            int b = a;
            while (b <= n && Math.abs(all.get(b).lean) <= v) {
                b++;
            }
            if (b - a > best) {
                best = b - a;
                from = a;
            }
        }
        tell(from);
        return best;
    }

    int makes(int v) {
        if (!in(v, 0, 9999)) {
            return -1;
        }
        List<State> all = ahead(now, 99, rule);
        for (int i = 0; i <= 99; i++) {
            if (all.get(i).leagues >= v) {
                tell(all.get(i).leagues, all.get(i).sail);
                return i;
            }
        }
        return -2;
    }

    // ---- so that she stands

    private State think(State s, int b, int t) {
        Brother x = s.brothers.get(b);
        return s.with(b, new Brother(x.gravity, t, x.place));
    }

    private State put(State s, int b, int p) {
        Brother x = s.brothers.get(b);
        return s.with(b, new Brother(x.gravity, x.thought, p));
    }

    int steps(int v) {
        if (!in(v, 0, 20)) {
            return -1;
        }
        if (Math.abs(pull(now)) <= v) {
            tell();
            return 0;
        }
        int n = now.brothers.size();
        for (int a = 0; a < 10 * n; a++) {
            if (a % 10 < 6 && now.brothers.get(a / 10).thought != a % 10
                    && Math.abs(pull(think(now, a / 10, a % 10))) <= v) {
                tell(a);
                return 1;
            }
        }
        for (int a = 0; a < 10 * n; a++) {
            for (int b = 10 * (a / 10 + 1); b < 10 * n; b++) {
                if (a % 10 < 6 && now.brothers.get(a / 10).thought != a % 10
                        && b % 10 < 6 && now.brothers.get(b / 10).thought != b % 10
                        && Math.abs(pull(think(think(now, a / 10, a % 10), b / 10, b % 10))) <= v) {
                    tell(a, b);
                    return 2;
                }
            }
        }
        return -2;
    }

    int best(int n) {
        if (!in(n, 1, 60)) {
            return -1;
        }
        int[] more = new int[10];
        for (int v = 0; v < 10; v++) {
            more[v] = ahead(now.withSail(v), n, rule).get(n).leagues - now.leagues;
        }
        int best = 9;
        for (int v = 9; v >= 0; v--) {
            best = more[v] >= more[best] ? v : best;
        }
        tell(more[best], more[now.sail]);
        return best;
    }

    int trims(int b) {
        if (!has(b)) {
            return -1;
        }
        int best = 5;
        for (int p = 5; p >= -5; p--) {
            best = Math.abs(pull(put(now, b, p))) <= Math.abs(pull(put(now, b, best))) ? p : best;
        }
        tell(100 + pull(put(now, b, best)));
        return 10 + best;
    }

    int frees() {
        int n = now.brothers.size();
        if (n == 0) {
            return -2;
        }
        int[] pulls = new int[n];
        for (int b = 0; b < n; b++) {
            int m = moment(now, rule, wind(now.hour)) - weight(now, b, rule) * now.brothers.get(b).place;
            pulls[b] = cap(m / 8, -20, 20);
        }
        int best = n - 1;
        for (int b = n - 1; b >= 0; b--) {
            best = Math.abs(pulls[b]) <= Math.abs(pulls[best]) ? b : best;
        }
        tell(100 + pulls[best], 100 + pull(now));
        return best;
    }

    int bears() {
        int best = -2;
        for (int w = 0; w <= 9; w++) {
            best = cap(moment(now, rule, w) / 8, -20, 20) < 15 ? w : best;
        }
        if (best >= 0) {
            tell(100 + cap(moment(now, rule, best) / 8, -20, 20), 100 + cap(moment(now, rule, 9) / 8, -20, 20));
        }
        return best;
    }

    // ---- brothers by sides

    private int weightOf(int bits) {
        int sum = 0;
        for (int b = 0; b < now.brothers.size(); b++) {
            sum += (bits & 1 << b) != 0 ? weight(now, b, rule) : 0;
        }
        return sum;
    }

    int parties() {
        int all = (1 << now.brothers.size()) - 1;
        int best = 0;
        for (int bits = all; bits >= 0; bits--) {
            int d = Math.abs(weightOf(bits) - weightOf(all & ~bits));
            best = d <= Math.abs(weightOf(best) - weightOf(all & ~best)) ? bits : best;
        }
        tell(best, weightOf(best));
        return Math.abs(weightOf(best) - weightOf(all & ~best));
    }

    int just(int v) {
        if (!in(v, 0, 140)) {
            return -1;
        }
        List<Integer> sets = new ArrayList<>();
        for (int bits = 0; bits < 1 << now.brothers.size(); bits++) {
            if (weightOf(bits) == v) {
                sets.add(bits);
            }
        }
        if (sets.isEmpty()) {
            return -2;
        }
        List<Integer> sorted = new ArrayList<>(sets);
        sorted.sort((x, y) -> Integer.bitCount(x) != Integer.bitCount(y)
                ? Integer.bitCount(x) - Integer.bitCount(y) : x - y);
        tell(sorted.get(0), sets.size());
        return Integer.bitCount(sorted.get(0));
    }

    int swaps() {
        int n = now.brothers.size();
        int best = -2;
        int bestPull = 0;
        for (int a = n - 2; a >= 0; a--) {
            for (int b = n - 1; b > a; b--) {
                int p = pull(put(put(now, a, now.brothers.get(b).place), b, now.brothers.get(a).place));
                if (best < 0 || Math.abs(p) <= Math.abs(bestPull)) {
                    best = 10 * a + b;
                    bestPull = p;
                }
            }
        }
        if (best >= 0) {
            tell(100 + bestPull);
        }
        return best;
    }

    int line() {
        List<Integer> all = new ArrayList<>();
        for (int b = 0; b < now.brothers.size(); b++) {
            all.add(b);
        }
        all.sort((x, y) -> weight(now, y, rule) - weight(now, x, rule));
        tell(all.stream().mapToLong(x -> x).toArray());
        return all.size();
    }

    int apart() {
        int best = 0;
        for (int bits = 0; bits < 1 << now.brothers.size(); bits++) {
            Set<Integer> thoughts = new HashSet<>();
            Set<Integer> places = new HashSet<>();
            for (int b = 0; b < now.brothers.size(); b++) {
                if ((bits & 1 << b) != 0) {
                    thoughts.add(now.brothers.get(b).thought);
                    places.add(now.brothers.get(b).place);
                }
            }
            int n = Integer.bitCount(bits);
            best = thoughts.size() == n && places.size() == n && n > Integer.bitCount(best) ? bits : best;
        }
        tell(best);
        return Integer.bitCount(best);
    }

    // ---- what he thought

    int saw(int w, int s, int v) {
        if (!in(w, -9, 9) || !in(s, 0, 9) || !in(v, -20, 20) || seen.size() == 10) {
            return -1;
        }
        seen.add(new int[] {w, s, v});
        return seen.size();
    }

    int denies() {
        int n = seen.size();
        seen.clear();
        return n;
    }

    private int pullBy(State s, int w, int sail) {
        return cap(moment(s.withSail(sail), rule, w) / 8, -20, 20);
    }

    private List<Integer> left(int b) {
        List<Integer> all = new ArrayList<>();
        for (int t = 0; t < 6; t++) {
            boolean ok = true;
            for (int[] x : seen) {
                ok &= pullBy(think(now, b, t), x[0], x[1]) == x[2];
            }
            if (ok) {
                all.add(t);
            }
        }
        return all;
    }

    int minds(int b) {
        if (!has(b)) {
            return -1;
        }
        int bits = 0;
        for (int t : left(b)) {
            bits += 1 << t;
        }
        tell(left(b).size(), left(b).contains(now.brothers.get(b).thought) ? 1 : 0);
        return bits;
    }

    int looks(int b) {
        if (!has(b)) {
            return -1;
        }
        List<Integer> all = left(b);
        if (all.isEmpty()) {
            return -2;
        }
        int[] bare = new int[6];
        for (int t : all) {
            bare[t] = moment(think(now, b, t), rule, 0);
        }
        int best = -1;
        int fewest = 99;
        for (int code = 0; code < 190; code++) {
            Map<Integer, Integer> groups = new HashMap<>();
            for (int t : all) {
                groups.merge(cap((bare[t] + 2 * (code / 10 - 9) * (code % 10)) / 8, -20, 20), 1, Integer::sum);
            }
            int most = java.util.Collections.max(groups.values());
            if (most < fewest) {
                fewest = most;
                best = code;
            }
        }
        tell(fewest);
        return best;
    }

    // ---- who it was

    private static final int[] HEARD = {9, 5, 1, 5, 9};

    int heard(int what, int v) {
        if (!in(what, 0, 4) || !in(v, 0, HEARD[what]) || heard.size() == 12) {
            return -1;
        }
        heard.add(new int[] {what, v});
        return heard.size();
    }

    int forget() {
        int n = heard.size();
        heard.clear();
        return n;
    }

    private boolean so(int b, int what, int v) {
        Brother x = now.brothers.get(b);
        return switch (what) {
            case 0 -> x.gravity >= v;
            case 1 -> x.thought == v;
            case 2 -> v == 1 ? x.place > 0 : x.place <= 0;
            case 3 -> Math.abs(x.place) == v;
            default -> weight(now, b, rule) >= v;
        };
    }

    private List<Integer> fitting() {
        List<Integer> all = new ArrayList<>();
        for (int b = 0; b < now.brothers.size(); b++) {
            boolean ok = true;
            for (int[] x : heard) {
                ok &= so(b, x[0], x[1]);
            }
            if (ok) {
                all.add(b);
            }
        }
        return all;
    }

    int fits() {
        int bits = 0;
        for (int b : fitting()) {
            bits += 1 << b;
        }
        tell(fitting().size());
        return bits;
    }

    int asks() {
        List<Integer> all = fitting();
        if (all.isEmpty()) {
            return -2;
        }
        int best = -1;
        int fewest = 99;
        for (int what = 0; what < 5; what++) {
            for (int v = 0; v <= HEARD[what]; v++) {
                int yes = 0;
                for (int b : all) {
                    yes += so(b, what, v) ? 1 : 0;
                }
                if (Math.max(yes, all.size() - yes) < fewest) {
                    fewest = Math.max(yes, all.size() - yes);
                    best = 10 * what + v;
                }
            }
        }
        tell(fewest);
        return best;
    }

    // ---- chances, a cake

    int grave(int n, int p) {
        if (!in(n, 0, 8) || !in(p, 0, 10)) {
            return -1;
        }
        BigInteger ways = overWays(now, n, p);
        BigInteger all = BigInteger.TEN.pow(n);
        BigInteger g = ways.gcd(all);
        tell(ways.divide(g).longValue(), all.divide(g).longValue());
        return 0;
    }

    private BigInteger overWays(State s, int n, int p) {
        if (n == 0) {
            return BigInteger.ZERO;
        }
        BigInteger sum = BigInteger.ZERO;
        for (int w : new int[] {9, -9}) {
            State t = hour(s, rule, w);
            BigInteger ways = Math.abs(t.lean) >= 15 ? BigInteger.TEN.pow(n - 1) : overWays(t, n - 1, p);
            sum = sum.add(ways.multiply(BigInteger.valueOf(w > 0 ? p : 10 - p)));
        }
        return sum;
    }

    private static final Map<Integer, Boolean> CAKES = new HashMap<>();

    /** What is left, as bits of 7 in a row, behind a piece. */
    private static int eat(int cake, int row, int column) {
        int left = cake;
        for (int r = row; r < 3; r++) {
            for (int c = column; c < 7; c++) {
                left &= ~(1 << 7 * r + c);
            }
        }
        return left;
    }

    private static boolean wins(int cake) {
        Boolean known = CAKES.get(cake);
        if (known != null) {
            return known;
        }
        boolean wins = false;
        for (int at = 1; at < 21 && !wins; at++) {
            wins = (cake >> at & 1) == 1 && !wins(eat(cake, at / 7, at % 7));
        }
        CAKES.put(cake, wins);
        return wins;
    }

    int cake(int a, int b) {
        if (!in(a, 1, 3) || !in(b, 1, 7)) {
            return -1;
        }
        int cake = 0;
        for (int r = 0; r < a; r++) {
            for (int c = 0; c < b; c++) {
                cake |= 1 << 7 * r + c;
            }
        }
        for (int r = 0; r < a; r++) {
            for (int c = 0; c < b; c++) {
                if (r + c > 0 && !wins(eat(cake, r, c))) {
                    return 10 * r + c;
                }
            }
        }
        return -2;
    }

    // ---- rests, rules, years

    int rests(int v) {
        if (!in(v, 0, 18)) {
            return -1;
        }
        List<int[]> pairs = new ArrayList<>();
        for (int x = 0; x < 10; x++) {
            for (int y = 0; y < 10; y++) {
                boolean rest = true;
                for (int z = 0; z < 10; z++) {
                    rest &= has(z, y, v) <= has(x, y, v) && has(z, x, v) <= has(y, x, v);
                }
                if (rest) {
                    pairs.add(new int[] {x, y});
                }
            }
        }
        tell();
        if (!pairs.isEmpty()) {
            tell(pairs.get(0)[0], pairs.get(0)[1]);
        }
        return pairs.size();
    }

    private static int has(int mine, int his, int v) {
        int worth = mine + his >= v ? 9 : 0;
        int pays = mine > his ? mine + 2 : mine;
        return worth - pays;
    }

    int law() {
        String s = read();
        int f = ruleFault(s);
        if (f >= 0) {
            return -100000 - f;
        }
        State a = ahead(now, 20, s).get(20);
        State b = ahead(now, 20, rule).get(20);
        tell(a.leagues - now.leagues, b.leagues - now.leagues, 100 + a.lean, 100 + b.lean);
        return a.leagues - b.leagues;
    }

    int years(int seed, int n) {
        if (!in(n, 1, 60)) {
            return -1;
        }
        State s = now;
        long[] r = {Integer.toUnsignedLong(seed)};
        int overs = 0;
        for (int i = 0; i < n; i++) {
            int d = draw(r, 4);
            if (d < 2) {
                s = hour(s, rule, wind(s.hour));
                overs += Math.abs(s.lean) >= 15 ? 1 : 0;
            } else if (d == 2) {
                s = s.withSail(draw(r, 10));
            } else if (!s.brothers.isEmpty()) {
                int b = draw(r, s.brothers.size());
                s = think(s, b, draw(r, 6));
            }
        }
        tell(s.leagues - now.leagues, overs);
        return 100 + s.lean;
    }

    private static int draw(long[] r, int n) {
        r[0] = (r[0] * 1103515245L + 12345L) & 0xffffffffL;
        return (int) (r[0] / 65536 % n);
    }

    // ---- kept

    boolean keep(int i) {
        if (i != 0 && i != 1) {
            return false;
        }
        kept[i] = now;
        return true;
    }

    boolean again(int i) {
        if (i != 0 && i != 1 || kept[i] == null) {
            return false;
        }
        now = kept[i];
        undone.clear();
        return true;
    }

    int count(int what) {
        int gravities = now.brothers.stream().mapToInt(Brother::gravity).sum();
        int[] all = {now.brothers.size(), now.hour, now.sail, 100 + now.lean, now.leagues, now.overs,
            10 + wind(now.hour), gravities, weightOf(127), seen.size(), heard.size(), undone.size(), row.size(),
            text.length()};
        return in(what, 0, 13) ? all[what] : -1;
    }

    long row(int i) {
        if (!in(i, 0, row.size() - 1)) {
            throw new NoSuchElementException();
        }
        return row.get(i);
    }

    @Override
    public String toString() {
        return now + " winds " + Arrays.toString(winds) + " rule " + rule + " prices " + Arrays.toString(prices);
    }
}
