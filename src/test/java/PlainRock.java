import java.util.ArrayDeque;
import java.util.ArrayList;
import java.util.Arrays;
import java.util.HashMap;
import java.util.HashSet;
import java.util.List;
import java.util.Map;
import java.util.Set;
import java.util.TreeSet;

/**
 * The document once more, said in another way and without care for speed: no tables, each answer from
 * HEIGHT alone, searches forwards where TumblingRock goes backwards. ModelTests holds both against each other.
 */
final class PlainRock {
    static final int NONE = -1, UNKNOWN = -1000000001, OUTSIDE = -1000000002, NOT = -1000000003, FULL = -1000000004;

    /** What a text tells. */
    static final class Told {
        final List<int[]> turnings = new ArrayList<>(), places = new ArrayList<>(), pushes = new ArrayList<>();
        final List<Set<Integer>> ways = new ArrayList<>();
        int fault, faultAt = NONE;
    }

    private static final class State {
        int[] shifts = new int[3];
        int where, step, light;
        long seed;

        State copy() {
            State s = new State();
            s.shifts = shifts.clone();
            s.where = where;
            s.step = step;
            s.light = light;
            s.seed = seed;
            return s;
        }
    }

    private record Seen(int place, int step, boolean lit) { }

    private record Token(char kind, String text, int from) { }

    private StringBuilder text = new StringBuilder();
    private Told told = new Told();
    private int faultAt = NONE;
    private State now = new State();
    private State[] images = new State[2];
    private List<Seen> seen = new ArrayList<>();
    private List<Integer> book = new ArrayList<>();

    // ---- the text

    private static List<Token> tokens(String text) {
        List<Token> list = new ArrayList<>();
        int i = 0;
        while (i < text.length()) {
            char c = text.charAt(i);
            int from = i;
            if (c == ' ') {
                i++;
            } else if (c >= 'a' && c <= 'z') {
                while (i < text.length() && text.charAt(i) >= 'a' && text.charAt(i) <= 'z') i++;
                list.add(new Token('w', text.substring(from, i), from));
            } else if (c >= '0' && c <= '9') {
                while (i < text.length() && text.charAt(i) >= '0' && text.charAt(i) <= '9') i++;
                list.add(new Token('n', text.substring(from, i), from));
            } else {
                i++;
                list.add(new Token(c, text.substring(from, i), from));
            }
        }
        list.add(new Token('e', "", text.length()));
        return list;
    }

    private static Told bad(Told t, int fault, Token token) {
        t.fault = fault;
        t.faultAt = token.from;
        return t;
    }

    /** What each Token may be, looked up ahead of it: so the first Token with a fault is the first byte with one. */
    static Told parse(String text) {
        Told t = new Told();
        List<Token> list = tokens(text);
        List<Integer> row = new ArrayList<>();
        String clause = "";
        boolean comma = false;
        for (Token token : list) {
            if (clause.isEmpty()) {
                if (token.kind == 'e') return t;
                int have, most;
                switch (token.kind == 'w' ? token.text : "") {
                    case "turn": have = t.turnings.size(); most = 3; break;
                    case "place": have = t.places.size(); most = 8; break;
                    case "way": have = t.ways.size(); most = 12; break;
                    case "push": have = t.pushes.size(); most = 4; break;
                    default: return bad(t, 1, token);
                }
                if (have == most) return bad(t, 3, token);
                clause = token.text;
                row.clear();
                comma = false;
                continue;
            }
            int n = row.size();
            boolean number, end, mayComma = false;
            int bound;
            if (clause.equals("turn")) {
                number = n == 0 || comma;
                mayComma = n >= 1 && n < 12 && !comma;
                end = n >= 2 && !comma;
                bound = 18;
            } else if (clause.equals("way")) {
                number = n < 2;
                end = n == 2;
                bound = t.places.size() - 1;
            } else {
                number = n < 3;
                end = n == 3;
                bound = clause.equals("push") ? 11 : 18;
            }
            if (token.kind == 'n' && number) {
                if (token.text.length() > 3 || Integer.parseInt(token.text) > bound) return bad(t, 2, token);
                int v = Integer.parseInt(token.text);
                if (clause.equals("way") && n == 1) {
                    if (v == row.get(0) || t.ways.contains(Set.of(v, row.get(0)))) return bad(t, 4, token);
                }
                row.add(v);
                comma = false;
            } else if (token.kind == ',' && mayComma) {
                comma = true;
            } else if (token.kind == ';' && end) {
                int less = clause.equals("push") ? 0 : 9;
                int[] values = row.stream().mapToInt(v -> v - less).toArray();
                if (clause.equals("turn")) t.turnings.add(values);
                else if (clause.equals("place")) t.places.add(values);
                else if (clause.equals("push")) t.pushes.add(values);
                else t.ways.add(Set.of(row.get(0), row.get(1)));
                clause = "";
            } else {
                return bad(t, 1, token);
            }
        }
        return t;
    }

    int feed(int n, long bytes) {
        if (n < 1 || n > 8) return OUTSIDE;
        if (text.length() + n > 400) return FULL;
        for (int k = 8 - n; k < 8; k++) text.append((char) (bytes << 8 * k >>> 56));
        return text.length();
    }

    int rock() {
        Told t = parse(text.toString());
        text = new StringBuilder();
        faultAt = t.faultAt;
        if (t.fault > 0) return -10 - t.fault;
        told = t;
        long seed = now.seed;
        now = new State();
        now.seed = seed;
        images = new State[2];
        seen = new ArrayList<>();
        book = new ArrayList<>();
        return t.places.size();
    }

    int fault() {
        return faultAt;
    }

    // ---- what stands where

    private int size(int i) {
        return i < told.turnings.size() ? told.turnings.get(i).length : 1;
    }

    private int heightWith(int[] shifts, int p, int step) {
        int sum = 0;
        for (int i = 0; i < told.turnings.size(); i++) {
            sum += told.places.get(p)[i] * told.turnings.get(i)[(step + shifts[i]) % size(i)];
        }
        return sum;
    }

    private boolean lit(int p, int step) {
        return heightWith(now.shifts, p, step) > 0;
    }

    private int period() {
        int k = 1;
        while (k % size(0) != 0 || k % size(1) != 0 || k % size(2) != 0) k++;
        return k;
    }

    private Set<Integer> roads(int p) {
        Set<Integer> roads = new TreeSet<>();
        for (Set<Integer> way : told.ways) {
            if (!way.contains(p)) continue;
            for (int q : way) if (q != p) roads.add(q);
        }
        return roads;
    }

    private boolean noPlace(int p) {
        return p < 0 || p >= told.places.size();
    }

    private static boolean noStep(int step) {
        return step < 0 || step > 999999;
    }

    int told(int what) {
        int lit = 0;
        for (int p = 0; p < told.places.size(); p++) if (lit(p, now.step)) lit += 1 << p;
        int[] all = {told.turnings.size(), told.places.size(), told.ways.size(), told.pushes.size(), text.length(),
            period(), now.step, told.places.isEmpty() ? NONE : now.where, now.light, seen.size(), book.size(), lit};
        return what < 0 || what >= all.length ? OUTSIDE : all[what];
    }

    int turning(int i, int what) {
        if (i < 0 || i >= told.turnings.size()) return UNKNOWN;
        int stands = (now.step + now.shifts[i]) % size(i);
        int[] all = {size(i), now.shifts[i], stands, told.turnings.get(i)[stands]};
        return what < 0 || what >= all.length ? OUTSIDE : all[what];
    }

    int place(int p, int what) {
        if (noPlace(p)) return UNKNOWN;
        if (what < 0 || what > 5) return OUTSIDE;
        if (what < 3) return told.places.get(p)[what];
        int set = 0;
        for (int q : roads(p)) set += 1 << q;
        return what == 3 ? set : what == 4 ? dark(p) : litSteps(p);
    }

    private int dark(int p) {
        int most = 0;
        for (int from = 0; from < period(); from++) {
            int run = 0;
            while (run < period() && !lit(p, from + run)) run++;
            most = Math.max(most, run);
        }
        return most;
    }

    private int litSteps(int p) {
        int many = 0;
        for (int t = 0; t < period(); t++) if (lit(p, t)) many++;
        return many;
    }

    int height(int p, int step) {
        return noPlace(p) ? UNKNOWN : noStep(step) ? OUTSIDE : heightWith(now.shifts, p, step);
    }

    // ---- steps

    private int stepOn() {
        now.step++;
        int had = lit(now.where, now.step) ? 1 : 0;
        now.light += had;
        return had;
    }

    int stay(int n) {
        if (n < 1 || n > 999) return OUTSIDE;
        if (told.places.isEmpty()) return NOT;
        int before = now.light;
        for (int k = 0; k < n; k++) stepOn();
        return now.light - before;
    }

    int go(int p) {
        if (noPlace(p)) return UNKNOWN;
        if (!roads(now.where).contains(p)) return NOT;
        now.where = p;
        return stepOn();
    }

    int knock(int i, int k) {
        if (i < 0 || i >= told.turnings.size()) return UNKNOWN;
        if (k < 0 || k > 11) return OUTSIDE;
        now.shifts[i] = (now.shifts[i] + k) % size(i);
        return now.shifts[i];
    }

    private int[] pushed(int[] shifts, int k) {
        int[] then = shifts.clone();
        for (int i = 0; i < 3; i++) then[i] = (then[i] + told.pushes.get(k)[i]) % size(i);
        return then;
    }

    int push(int k) {
        if (k < 0 || k >= told.pushes.size()) return UNKNOWN;
        int[] before = now.shifts;
        now.shifts = pushed(before, k);
        int many = 0;
        for (int i = 0; i < 3; i++) if (before[i] != now.shifts[i]) many++;
        return many;
    }

    private int draw(int n) {
        now.seed = (now.seed * 1103515245L + 12345) % (1L << 31);
        return (int) (now.seed / 65536 % n);
    }

    int drift(int n) {
        if (n < 1 || n > 99) return OUTSIDE;
        if (told.turnings.isEmpty() || told.places.isEmpty()) return NOT;
        int before = now.light;
        for (int k = 0; k < n; k++) {
            if (draw(8) == 0) {
                int i = draw(told.turnings.size());
                now.shifts[i] = (now.shifts[i] + draw(size(i))) % size(i);
            } else {
                List<Integer> roads = new ArrayList<>(roads(now.where));
                if (!roads.isEmpty()) now.where = roads.get(draw(roads.size()));
            }
            stepOn();
        }
        return now.light - before;
    }

    // ---- light

    int next(int p, int step, int what) {
        if (noPlace(p)) return UNKNOWN;
        if (noStep(step) || what < 0 || what > 1) return OUTSIDE;
        if (litSteps(p) == 0) return NONE;
        int from = step;
        while (!lit(p, from)) from++;
        if (what == 0) return from - step;
        int to = from;
        while (to - from < period() && lit(p, to)) to++;
        return to - from;
    }

    int share(int p, int part) {
        if (noPlace(p)) return UNKNOWN;
        if (part < 0 || part > 1) return OUTSIDE;
        int above = litSteps(p), below = period();
        for (int d = 2; d <= below; d++) {
            while (above % d == 0 && below % d == 0) {
                above /= d;
                below /= d;
            }
        }
        return part == 0 ? above : below;
    }

    int stand(int a, int b, int c, int step) {
        int[] wanted = {a, b, c};
        for (int w : wanted) if (w < 0 || w > 11) return OUTSIDE;
        if (noStep(step)) return OUTSIDE;
        for (int t = step; t < step + period(); t++) {
            boolean so = true;
            for (int i = 0; i < told.turnings.size(); i++) so &= (t + now.shifts[i]) % size(i) == wanted[i];
            if (so) return t;
        }
        return NONE;
    }

    int way(int p, int step, int n, int i) {
        if (noPlace(p)) return UNKNOWN;
        if (noStep(step) || n < 1 || n > 40 || i < NONE || i > n) return OUTSIDE;
        // by PLACE: the best rows so far that end there, as (-LIGHT, row); the lesser row wins among like LIGHT
        Map<Integer, List<Integer>> rows = new HashMap<>();
        Map<Integer, Integer> light = new HashMap<>();
        rows.put(p, List.of(p));
        light.put(p, 0);
        for (int k = 1; k <= n; k++) {
            Map<Integer, List<Integer>> rowsThen = new HashMap<>();
            Map<Integer, Integer> lightThen = new HashMap<>();
            for (int from : rows.keySet()) {
                Set<Integer> reach = new TreeSet<>(roads(from));
                reach.add(from);
                for (int to : reach) {
                    int had = light.get(from) + (lit(to, step + k) ? 1 : 0);
                    List<Integer> row = new ArrayList<>(rows.get(from));
                    row.add(to);
                    if (!rowsThen.containsKey(to) || better(had, row, lightThen.get(to), rowsThen.get(to))) {
                        rowsThen.put(to, row);
                        lightThen.put(to, had);
                    }
                }
            }
            rows = rowsThen;
            light = lightThen;
        }
        int best = NONE;
        for (int to : rows.keySet()) {
            if (best == NONE || better(light.get(to), rows.get(to), light.get(best), rows.get(best))) best = to;
        }
        return i == NONE ? light.get(best) : rows.get(best).get(i);
    }

    private static boolean better(int had, List<Integer> row, int hadThere, List<Integer> rowThere) {
        if (had != hadThere) return had > hadThere;
        for (int k = 0; k < row.size(); k++) {
            int order = Integer.compare(row.get(k), rowThere.get(k));
            if (order != 0) return order < 0;
        }
        return false;
    }

    int mail(int p, int q, int step) {
        if (noPlace(p) || noPlace(q)) return UNKNOWN;
        if (noStep(step)) return OUTSIDE;
        if (!lit(p, step)) return NONE;
        int period = period();
        Set<List<Integer>> been = new HashSet<>();
        ArrayDeque<int[]> open = new ArrayDeque<>();
        open.add(new int[] {p, 0});
        while (!open.isEmpty()) {
            int[] at = open.remove();
            if (at[0] == q) return at[1];
            Set<Integer> reach = new TreeSet<>(roads(at[0]));
            reach.add(at[0]);
            for (int to : reach) {
                int k = at[1] + 1;
                if (lit(to, step + k) && been.add(List.of(to, k % period))) open.add(new int[] {to, k});
            }
        }
        return NONE;
    }

    int cross(int p, int q, int step) {
        if (noPlace(p) || noPlace(q) || p == q) return UNKNOWN;
        if (noStep(step)) return OUTSIDE;
        for (int t = step; t < step + period(); t++) {
            int high = heightWith(now.shifts, p, t);
            if (high > 0 && high == heightWith(now.shifts, q, t)) return t;
        }
        return NONE;
    }

    int store() {
        int best = NONE;
        for (int p = told.places.size() - 1; p >= 0; p--) if (best == NONE || dark(p) <= dark(best)) best = p;
        return best;
    }

    // ---- what was seen

    int see(int p, int step, boolean lit) {
        if (noPlace(p)) return UNKNOWN;
        if (step < 0 || step > 9999) return OUTSIDE;
        if (seen.size() == 20) return FULL;
        seen.add(new Seen(p, step, lit));
        return seen.size();
    }

    private List<int[]> fitting() {
        List<int[]> rows = new ArrayList<>();
        for (int a = 0; a < size(0); a++) {
            for (int b = 0; b < size(1); b++) {
                for (int c = 0; c < size(2); c++) {
                    int[] row = {a, b, c};
                    if (seen.stream().allMatch(s -> heightWith(row, s.place, s.step) > 0 == s.lit)) rows.add(row);
                }
            }
        }
        return rows;
    }

    int fits(int i, int k) {
        List<int[]> rows = fitting();
        if (i == NONE) return rows.size();
        if (k < 0 || k >= told.turnings.size()) return UNKNOWN;
        return i < 0 || i >= rows.size() ? NONE : rows.get(i)[k];
    }

    int look(int what) {
        if (what < 0 || what > 2) return OUTSIDE;
        List<int[]> rows = fitting();
        int[] best = null;
        for (int p = told.places.size() - 1; p >= 0; p--) {
            for (int t = 23; t >= 0; t--) {
                int lit = 0;
                for (int[] row : rows) if (heightWith(row, p, t) > 0) lit++;
                if (lit == 0 || lit == rows.size()) continue;
                int greater = Math.max(lit, rows.size() - lit);
                boolean better = best == null || greater < best[2]
                    || greater == best[2] && (t < best[1] || t == best[1] && p < best[0]);
                if (better) best = new int[] {p, t, greater};
            }
        }
        return best == null ? NONE : best[what];
    }

    int mend(int a, int b, int c, int i) {
        int[] wanted = {a, b, c};
        for (int w : wanted) if (w < 0 || w > 11) return OUTSIDE;
        for (int k = told.turnings.size(); k < 3; k++) wanted[k] = 0;
        // rows come out of the queue by length, then in order: the first that arrives is the one to tell
        Map<List<Integer>, List<Integer>> rows = new HashMap<>();
        ArrayDeque<int[]> open = new ArrayDeque<>();
        rows.put(listOf(now.shifts), List.of());
        open.add(now.shifts);
        while (!open.isEmpty()) {
            int[] shifts = open.remove();
            List<Integer> row = rows.get(listOf(shifts));
            if (Arrays.equals(shifts, wanted)) {
                return i == NONE ? row.size() : i < 0 || i >= row.size() ? NONE : row.get(i);
            }
            for (int k = 0; k < told.pushes.size(); k++) {
                int[] then = pushed(shifts, k);
                if (rows.containsKey(listOf(then))) continue;
                List<Integer> longer = new ArrayList<>(row);
                longer.add(k);
                rows.put(listOf(then), longer);
                open.add(then);
            }
        }
        return NONE;
    }

    private static List<Integer> listOf(int[] row) {
        return List.of(row[0], row[1], row[2]);
    }

    // ---- books, draws, images

    int write(int p) {
        if (noPlace(p)) return UNKNOWN;
        if (book.size() == 30) return FULL;
        book.add(p);
        return book.size();
    }

    int tear() {
        int both = book.size() + seen.size();
        book.clear();
        seen.clear();
        return both;
    }

    int judge(int what) {
        if (what < 0 || what > 1) return OUTSIDE;
        int light = 0, wrong = NONE;
        for (int k = book.size() - 1; k >= 0; k--) {
            int p = book.get(k);
            if (lit(p, k)) light++;
            if (k > 0 && p != book.get(k - 1) && !roads(book.get(k - 1)).contains(p)) wrong = k;
        }
        return what == 0 ? wrong : light;
    }

    int seed(int v) {
        if (v < 0) return OUTSIDE;
        int before = (int) now.seed;
        now.seed = v;
        return before;
    }

    int keep(int i) {
        if (i < 0 || i > 1) return UNKNOWN;
        images[i] = now.copy();
        return 1;
    }

    int goBack(int i) {
        if (i < 0 || i > 1) return UNKNOWN;
        if (images[i] == null) return NOT;
        now = images[i].copy();
        return 1;
    }
}
