import java.math.BigInteger;
import java.util.ArrayDeque;
import java.util.ArrayList;
import java.util.Arrays;
import java.util.Deque;
import java.util.HashMap;
import java.util.List;
import java.util.Map;
import java.util.TreeMap;
import java.util.regex.Matcher;
import java.util.regex.Pattern;

/** The document's words once more, as plainly as can be and in other ways than the class: for ModelTest. */
public final class Model {
    private static final int BAD = -1, NOT = -2, FULL = -3, STATE = -5, SPENT = -7;
    private static final long NO = Long.MIN_VALUE;

    /** What a HOLDER holds: kind as lose() tells it. */
    private record Held(int kind, int n, int[] numbers) {
    }

    /** DISTANCES by the sets of two POINTS, as bits; PLACES by POINT. */
    private record State(int n, Map<Integer, Integer> far) {
        State {
            far = new TreeMap<>(far);
        }
    }

    private static final class Enough extends RuntimeException {
        private static final long serialVersionUID = 1L;
    }

    private static final Map<Integer, List<int[]>> WALLS = new HashMap<>();

    private State state = blank(4);
    private Map<Integer, int[]> places = new TreeMap<>();
    private final Deque<State> deeds = new ArrayDeque<>();
    private State image = null;
    private Map<Integer, int[]> imagePlaces = null;
    private final Held[] held = new Held[6];
    private String tape = "";
    private int tries;
    private int made;

    private static State blank(int n) {
        Map<Integer, Integer> far = new TreeMap<>();
        for (int[] pair : pairs(n)) {
            far.put(1 << pair[0] | 1 << pair[1], 0);
        }
        return new State(n, far);
    }

    private static List<int[]> pairs(int n) {
        List<int[]> all = new ArrayList<>();
        for (int i = 0; i < n; i++) {
            for (int j = i + 1; j < n; j++) {
                all.add(new int[] {i, j});
            }
        }
        return all;
    }

    private int far(int i, int j) {
        return state.far.get(1 << i | 1 << j);
    }

    private boolean in(int v, int least, int most) {
        return v >= least && v <= most;
    }

    private boolean isPair(int i, int j) {
        return in(i, 0, state.n - 1) && in(j, 0, state.n - 1) && i != j;
    }

    private boolean isCut(int s) {
        return in(s, 1, (int) Math.pow(2, state.n - 1) - 1);
    }

    private static boolean isIn(int s, int point) {
        return point > 0 && s / (1 << (point - 1)) % 2 == 1;
    }

    private static boolean separates(int s, int[] pair) {
        return isIn(s, pair[0]) != isIn(s, pair[1]);
    }

    private int together() {
        return state.far.values().stream().mapToInt(v -> v).sum();
    }

    private void become(State other) {
        if (!other.equals(state)) {
            deeds.push(state);
            if (deeds.size() > 8) {
                deeds.removeLast();
            }
            state = other;
            places.keySet().removeIf(point -> point >= state.n);
        }
    }

    private int otherwise(State other) {
        int changed = 0;
        for (int key : state.far.keySet()) {
            changed += state.far.get(key).equals(other.far.get(key)) ? 0 : 1;
        }
        return changed;
    }

    public int points(int n) {
        if (!in(n, 2, 6)) {
            return BAD;
        }
        int was = state.n;
        state = blank(n);
        places.clear();
        deeds.clear();
        return was;
    }

    public int put(int i, int j, int v) {
        if (!isPair(i, j) || !in(v, 0, 999)) {
            return BAD;
        }
        State other = new State(state.n, state.far);
        int was = other.far.put(1 << i | 1 << j, v);
        become(other);
        return was;
    }

    public int at(int i, int j) {
        return isPair(i, j) ? far(i, j) : BAD;
    }

    public int cut(int s, int w) {
        if (!isCut(s) || !in(w, -99, 99)) {
            return BAD;
        }
        State other = new State(state.n, state.far);
        for (int[] pair : pairs(state.n)) {
            if (separates(s, pair)) {
                int v = far(pair[0], pair[1]) + w;
                if (!in(v, 0, 999)) {
                    return STATE;
                }
                other.far.put(1 << pair[0] | 1 << pair[1], v);
            }
        }
        become(other);
        return together();
    }

    public int paths() {
        State other = new State(state.n, state.far);
        for (int[] pair : pairs(state.n)) {
            other.far.put(1 << pair[0] | 1 << pair[1], shortest(pair[0], pair[1], 1 << pair[0]));
        }
        int changed = otherwise(other);
        become(other);
        return changed;
    }

    private int shortest(int from, int to, int seen) {
        int best = far(from, to);
        for (int stop = 0; stop < state.n; stop++) {
            if (stop != to && (seen >> stop & 1) == 0) {
                best = Math.min(best, far(from, stop) + shortest(stop, to, seen | 1 << stop));
            }
        }
        return best;
    }

    public int place(int point, int x, int y) {
        if (!in(point, 0, state.n - 1) || !in(x, 0, 99) || !in(y, 0, 99)) {
            return BAD;
        }
        int[] was = places.put(point, new int[] {x, y});
        return was == null ? 0 : 100 * was[0] + was[1];
    }

    public int town() {
        State other = new State(state.n, state.far);
        int[] nowhere = {0, 0};
        for (int[] pair : pairs(state.n)) {
            int[] a = places.getOrDefault(pair[0], nowhere);
            int[] b = places.getOrDefault(pair[1], nowhere);
            other.far.put(1 << pair[0] | 1 << pair[1], Math.abs(a[0] - b[0]) + Math.abs(a[1] - b[1]));
        }
        int changed = otherwise(other);
        become(other);
        return changed;
    }

    public int stretch(int k) {
        if (!in(k, 0, 99)) {
            return BAD;
        }
        State other = new State(state.n, state.far);
        other.far.replaceAll((key, v) -> k * v);
        if (other.far.values().stream().anyMatch(v -> v > 999)) {
            return STATE;
        }
        become(other);
        return together();
    }

    public int back() {
        if (deeds.isEmpty()) {
            return STATE;
        }
        state = deeds.pop();
        places.keySet().removeIf(point -> point >= state.n);
        return deeds.size();
    }

    public int triangles(int what) {
        if (!in(what, 0, 1)) {
            return BAD;
        }
        List<Integer> broken = new ArrayList<>();
        for (int code = 0; code < 666; code++) {
            int i = code / 100;
            int j = code / 10 % 10;
            int k = code % 10;
            if (j < k && k < state.n && i < state.n && i != j && i != k && far(j, k) > far(i, j) + far(i, k)) {
                broken.add(code);
            }
        }
        return what == 0 ? broken.size() : broken.isEmpty() ? NOT : broken.get(0);
    }

    public int rounds(int what) {
        if (!in(what, 0, 1)) {
            return BAD;
        }
        List<Integer> odd = new ArrayList<>();
        for (int code = 0; code < 666; code++) {
            int i = code / 100;
            int j = code / 10 % 10;
            int k = code % 10;
            if (i < j && j < k && k < state.n && (far(i, j) + far(i, k) + far(j, k)) % 2 != 0) {
                odd.add(code);
            }
        }
        return what == 0 ? odd.size() : odd.isEmpty() ? NOT : odd.get(0);
    }

    private static List<int[]> wallsOf(int n, int m) {
        return WALLS.computeIfAbsent(10 * n + m, key -> {
            List<int[]> all = new ArrayList<>();
            for (int code = 0; code < (int) Math.pow(7, n); code++) {
                int[] b = new int[n];
                for (int i = n - 1, c = code; i >= 0; i--, c /= 7) {
                    b[i] = c % 7 - 3;
                }
                if (Arrays.stream(b).sum() == 1 && width(b) <= m) {
                    all.add(b);
                }
            }
            return all;
        });
    }

    private static int width(int[] b) {
        return Arrays.stream(b).map(Math::abs).max().orElse(0);
    }

    private int valueOf(int[] b) {
        int value = 0;
        for (int[] pair : pairs(state.n)) {
            value += b[pair[0]] * b[pair[1]] * far(pair[0], pair[1]);
        }
        return value;
    }

    public int walls(int m, int what) {
        if (!in(m, 1, 3) || !in(what, 0, 4)) {
            return BAD;
        }
        List<int[]> all = wallsOf(state.n, m);
        int[] values = all.stream().mapToInt(this::valueOf).toArray();
        switch (what) {
            case 0: return all.size();
            case 1: return (int) Arrays.stream(values).filter(v -> v > 0).count();
            case 2: return (int) Arrays.stream(values).filter(v -> v == 0).count();
            case 3:
                for (int k = 0; k < values.length; k++) {
                    if (values[k] > 0) {
                        return k;
                    }
                }
                return NOT;
            default:
                int most = Arrays.stream(values).max().getAsInt();
                int k = 0;
                while (values[k] != most) {
                    k++;
                }
                return k;
        }
    }

    public int wall(int m, int k, int i) {
        if (!in(m, 1, 3) || !in(i, 0, state.n - 1) || k < 0) {
            return BAD;
        }
        List<int[]> all = wallsOf(state.n, m);
        return k < all.size() ? all.get(k)[i] + 3 : NOT;
    }

    public int holdWall(int h, int m, int k) {
        if (!in(h, 0, 5) || !in(m, 1, 3) || k < 0) {
            return BAD;
        }
        List<int[]> all = wallsOf(state.n, m);
        if (k >= all.size()) {
            return NOT;
        }
        held[h] = new Held(2, state.n, all.get(k).clone());
        return width(all.get(k));
    }

    private int refused(int h, int kind) {
        return !in(h, 0, 5) ? BAD : held[h] == null ? -11 : held[h].kind != kind ? -12 : 0;
    }

    private int refusedWall(int h) {
        int refusal = refused(h, 2);
        return refusal != 0 ? refusal : held[h].n != state.n ? STATE : 0;
    }

    public int wallOf(int h, int from) {
        if (!in(h, 0, 5)) {
            return BAD;
        }
        if (refused(from, 3) != 0) {
            return refused(from, 3);
        }
        int[] numbers = held[from].numbers;
        if (numbers.length < state.n) {
            return STATE;
        }
        int[] b = Arrays.copyOf(numbers, state.n);
        if (wallsOf(state.n, 3).stream().noneMatch(wall -> Arrays.equals(wall, b))) {
            return STATE;
        }
        held[h] = new Held(2, state.n, b);
        return width(b);
    }

    public long value(int h) {
        return refusedWall(h) != 0 ? NO : valueOf(held[h].numbers);
    }

    private List<Integer> rootsOf(int[] b) {
        List<Integer> found = new ArrayList<>();
        for (int s = 1; isCut(s); s++) {
            int value = 0;
            for (int[] pair : pairs(state.n)) {
                value += separates(s, pair) ? b[pair[0]] * b[pair[1]] : 0;
            }
            if (value == 0) {
                found.add(s);
            }
        }
        return found;
    }

    private int rankOf(List<Integer> cuts) {
        List<BigInteger[]> rows = new ArrayList<>();
        for (int s : cuts) {
            rows.add(pairs(state.n).stream().map(pair -> separates(s, pair) ? BigInteger.ONE : BigInteger.ZERO)
                .toArray(BigInteger[]::new));
        }
        int rank = 0;
        for (int c = 0; c < pairs(state.n).size(); c++) {
            for (int r = 0; r < rows.size(); r++) {
                if (rows.get(r)[c].signum() != 0) {
                    BigInteger[] pivot = rows.remove(r);
                    rank++;
                    for (BigInteger[] row : rows) {
                        BigInteger factor = row[c];
                        for (int d = 0; d < row.length; d++) {
                            row[d] = row[d].multiply(pivot[c]).subtract(pivot[d].multiply(factor));
                        }
                    }
                    break;
                }
            }
        }
        return rank;
    }

    public int roots(int h, int what) {
        if (!in(h, 0, 5) || !in(what, 0, 2)) {
            return BAD;
        }
        if (refusedWall(h) != 0) {
            return refusedWall(h);
        }
        List<Integer> found = rootsOf(held[h].numbers);
        int rank = rankOf(found);
        return what == 0 ? found.size() : what == 1 ? rank : rank == pairs(state.n).size() - 1 ? 1 : 0;
    }

    public int root(int h, int k) {
        if (!in(h, 0, 5) || k < 0) {
            return BAD;
        }
        if (refusedWall(h) != 0) {
            return refusedWall(h);
        }
        List<Integer> found = rootsOf(held[h].numbers);
        return k < found.size() ? found.get(k) : NOT;
    }

    public int switched(int h, int s) {
        if (!in(h, 0, 5) || !isCut(s)) {
            return BAD;
        }
        if (refusedWall(h) != 0) {
            return refusedWall(h);
        }
        int[] b = held[h].numbers.clone();
        for (int k = 0; k < b.length; k++) {
            b[k] *= isIn(s, k) ? -1 : 1;
        }
        if (Arrays.stream(b).sum() != 1) {
            return STATE;
        }
        boolean same = Arrays.equals(b, held[h].numbers);
        held[h] = new Held(2, state.n, b);
        return same ? 0 : 1;
    }

    public int sum(int most, int s) {
        if (!in(most, 1, 9999) || s != 0 && s != -1 && !isCut(s)) {
            return BAD;
        }
        tries = most;
        made = 0;
        int[] numbers = new int[33];
        try {
            if (!seek(1, new TreeMap<>(state.far), numbers)) {
                return NOT;
            }
        } catch (Enough enough) {
            return SPENT;
        }
        return s == -1 ? made : s == 0 ? Arrays.stream(numbers).sum() : numbers[s];
    }

    private boolean seek(int s, Map<Integer, Integer> left, int[] numbers) {
        if (!isCut(s)) {
            return left.values().stream().allMatch(v -> v == 0);
        }
        List<Integer> apart = new ArrayList<>();
        for (int[] pair : pairs(state.n)) {
            if (separates(s, pair)) {
                apart.add(1 << pair[0] | 1 << pair[1]);
            }
        }
        int least = apart.stream().mapToInt(left::get).min().getAsInt();
        for (int w = least; w >= 0; w--) {
            if (made == tries) {
                throw new Enough();
            }
            made++;
            numbers[s] = w;
            Map<Integer, Integer> less = new TreeMap<>(left);
            for (int key : apart) {
                less.put(key, left.get(key) - w);
            }
            if (seek(s + 1, less, numbers)) {
                return true;
            }
        }
        return false;
    }

    public long gauge(int kind, int set) {
        if (!in(kind, 0, 4) || !in(set, 0, (int) Math.pow(2, state.n) - 1)) {
            return NO;
        }
        long within = 0;
        long across = 0;
        long longest = 0;
        for (int[] pair : pairs(state.n)) {
            int inside = Integer.bitCount(set & (1 << pair[0] | 1 << pair[1]));
            within += inside == 2 ? far(pair[0], pair[1]) : 0;
            across += inside == 1 ? far(pair[0], pair[1]) : 0;
            longest = inside == 2 ? Math.max(longest, far(pair[0], pair[1])) : longest;
        }
        return new long[] {within, 2 * within, across - 2 * within, longest, within - longest}[kind];
    }

    public int feed(int v, int n) {
        if (!in(n, 1, 4)) {
            return BAD;
        }
        if (tape.length() + n > 80) {
            return FULL;
        }
        String bytes = String.format("%08x", v).substring(8 - 2 * n);
        for (int k = 0; k < n; k++) {
            tape += (char) Integer.parseInt(bytes.substring(2 * k, 2 * k + 2), 16);
        }
        return tape.length();
    }

    public int wipe() {
        int was = tape.length();
        tape = "";
        return was;
    }

    private static final List<Pattern> FORMS = new ArrayList<>();

    private static List<Pattern> forms() {
        if (FORMS.isEmpty()) {
            StringBuilder rest = new StringBuilder();
            for (int n = 2; n <= 6; n++) {
                rest.append(";[0-9]{1,3}").append(",[0-9]{1,3}".repeat(n - 2));
                FORMS.add(Pattern.compile(n + rest.toString()));
            }
        }
        return FORMS;
    }

    private static boolean goesOn(String front) {
        for (Pattern form : forms()) {
            Matcher matcher = form.matcher(front);
            if (matcher.matches() || matcher.hitEnd()) {
                return true;
            }
        }
        return false;
    }

    public int read() {
        String text = tape;
        tape = "";
        for (int i = 0; i < text.length(); i++) {
            if (!goesOn(text.substring(0, i + 1))) {
                return -1000 - i;
            }
        }
        if (forms().stream().noneMatch(form -> form.matcher(text).matches())) {
            return -1000 - text.length();
        }
        State other = blank(text.charAt(0) - '0');
        String[] rows = text.split(";");
        for (int i = 1; i < rows.length; i++) {
            String[] row = rows[i].split(",");
            for (int j = 0; j < row.length; j++) {
                other.far.put(1 << i | 1 << j, Integer.parseInt(row[j]));
            }
        }
        become(other);
        return state.n;
    }

    public int spell(int i) {
        if (i < -1) {
            return BAD;
        }
        StringBuilder text = new StringBuilder().append(state.n);
        for (int a = 1; a < state.n; a++) {
            for (int b = 0; b < a; b++) {
                text.append(b == 0 ? ";" : ",").append(far(a, b));
            }
        }
        return i == -1 ? text.length() : i < text.length() ? text.charAt(i) : NOT;
    }

    public int hold(int h) {
        if (!in(h, 0, 5)) {
            return BAD;
        }
        held[h] = new Held(1, state.n, pairs(state.n).stream().mapToInt(pair -> far(pair[0], pair[1])).toArray());
        return state.n;
    }

    public int lose(int h) {
        if (!in(h, 0, 5)) {
            return BAD;
        }
        int was = held[h] == null ? 0 : held[h].kind;
        held[h] = null;
        return was;
    }

    public int taken(int h, int kind) {
        if (!in(h, 0, 5) || !in(kind, 0, 2)) {
            return BAD;
        }
        if (held[h] == null) {
            return -11;
        }
        if (held[h].kind == 3 || kind < 2 && held[h].kind != kind + 1) {
            return -12;
        }
        return kind == 0 ? Arrays.stream(held[h].numbers).sum() : kind == 1 ? width(held[h].numbers) : held[h].n;
    }

    public long number(int h, int i) {
        boolean there = in(h, 0, 5) && held[h] != null && in(i, 0, held[h].numbers.length - 1);
        return there ? held[h].numbers[i] : NO;
    }

    public int row(int h, int n) {
        if (!in(h, 0, 5) || n > 20) {
            return BAD;
        }
        if (n < 0) {
            return -14;
        }
        held[h] = new Held(3, 0, new int[n]);
        return n;
    }

    public int set(int h, int i, int v) {
        if (refused(h, 3) != 0) {
            return refused(h, 3);
        }
        if (!in(i, 0, held[h].numbers.length - 1)) {
            return -13;
        }
        held[h].numbers[i] = v;
        return 1;
    }

    public int judge(int h) {
        if (refused(h, 3) != 0) {
            return refused(h, 3);
        }
        int[] due = pairs(state.n).stream().mapToInt(pair -> far(pair[0], pair[1])).toArray();
        int first = Arrays.mismatch(held[h].numbers, due);
        return first < 0 ? NOT : first;
    }

    public int image() {
        image = new State(state.n, state.far);
        imagePlaces = new TreeMap<>(places);
        return state.n;
    }

    public int undo() {
        if (image == null) {
            return STATE;
        }
        state = new State(image.n, image.far);
        places = new TreeMap<>(imagePlaces);
        deeds.clear();
        return state.n;
    }

    public int count(int what) {
        int[] all = {state.n, pairs(state.n).size(), together(), deeds.size(), tape.length()};
        return in(what, 0, 4) ? all[what] : BAD;
    }
}
