import java.util.ArrayList;
import java.util.List;
import java.util.Random;

/** Runs of drawn calls, 512 an object, on TumblingRock and on PlainRock: both are to answer alike. */
public final class ModelTests {
    private static final int[] EDGES = {Integer.MIN_VALUE, -1000000001, -2, -1, 0, 1, 2, 3, 7, 8, 11, 12, 20, 30, 40, 41,
        99, 100, 999, 1000, 9999, 10000, 999999, 1000000, Integer.MAX_VALUE};

    private final Random draws;
    private TumblingRock x;
    private PlainRock y;
    private final StringBuilder run = new StringBuilder();
    private int calls;

    private ModelTests(long seed) {
        draws = new Random(seed);
    }

    public static void main(String[] args) {
        Due.watch("ModelTests", 20);
        for (int seed = 0; seed < 400; seed++) new ModelTests(seed).run(seed);
        Due.close("ModelTests");
    }

    private int below(int n) {
        return draws.nextInt(n);
    }

    /** Mostly inside, now and then an edge. */
    private int number(int least, int most) {
        return below(12) == 0 ? EDGES[below(EDGES.length)] : least + below(most - least + 1);
    }

    private void run(int seed) {
        x = new TumblingRock();
        y = new PlainRock();
        calls = 0;
        int kind = seed % 4;
        if (kind != 3) tell(rockText(kind));
        while (calls < 512) {
            if (below(kind == 2 ? 6 : 120) == 0) tell(below(2) == 0 ? rockText(below(3)) : broken(rockText(below(3))));
            else call();
        }
    }

    private void due(String call, long got, long want) {
        calls++;
        Due.is("call " + calls + ": " + call, got, want);
    }

    // ---- texts

    private String blanks() {
        return below(4) != 0 ? "" : " ".repeat(below(3));
    }

    private String told(int value) {
        if (below(15) == 0) return "0".repeat(Math.max(0, 3 - String.valueOf(value).length())) + value;
        return "" + value;
    }

    private String row(String word, int... values) {
        StringBuilder s = new StringBuilder(word).append(below(3) == 0 ? "" : " ");
        for (int i = 0; i < values.length; i++) s.append(i > 0 ? " " : "").append(blanks()).append(told(values[i]));
        return s + blanks() + ";" + blanks();
    }

    private String rockText(int kind) {
        List<String> clauses = new ArrayList<>();
        int turnings = kind == 0 ? 3 : below(4), places = kind == 0 ? 4 + below(5) : below(9);
        int longest = kind == 0 ? 12 : 2 + below(11);
        for (int i = 0; i < turnings; i++) {
            StringBuilder s = new StringBuilder("turn" + (below(3) == 0 ? "" : " ") + blanks());
            int n = 2 + below(longest - 1);
            for (int k = 0; k < n; k++) s.append(k > 0 ? "," : "").append(blanks()).append(told(below(19))).append(blanks());
            clauses.add(s + ";" + blanks());
        }
        for (int p = 0; p < places; p++) {
            int near = below(3) == 0 ? 19 : 7;
            clauses.add(row("place", 9 + below(near) - near / 2, 9 + below(near) - near / 2, 9 + below(near) - near / 2));
        }
        boolean[][] have = new boolean[8][8];
        for (int w = below(13); w > 0 && places > 1; w--) {
            int p = below(places), q = below(places);
            if (p == q || have[p][q]) continue;
            have[p][q] = true;
            have[q][p] = true;
            clauses.add(row("way", p, q));
        }
        for (int k = below(5); k > 0; k--) clauses.add(row("push", below(12), below(12), below(12)));
        StringBuilder s = new StringBuilder(blanks());
        for (String c : clauses) if (s.length() + c.length() <= 400) s.append(c);
        return s.toString();
    }

    private String broken(String text) {
        StringBuilder s = new StringBuilder(text);
        for (int k = 1 + below(2); k > 0; k--) {
            int at = below(s.length() + 1);
            String[] bits = {"turn", "place", "way", "push", " ", ";", ",", "0", "1", "9", "19", "0012", "a", "A", "way 0 1;",
                "place 9 9 9;", "push 0 0 0;", "turn 1,2;", "" + (char) below(256), " 7 "};
            if (below(2) == 0) s.insert(at, bits[below(bits.length)]);
            else if (s.length() > 0) s.delete(Math.min(at, s.length() - 1), Math.min(s.length(), at + 1 + below(3)));
        }
        return s.length() > 400 ? s.substring(0, 400) : s.toString();
    }

    private void tell(String text) {
        for (int from = 0; from < text.length();) {
            int n = Math.min(1 + below(8), text.length() - from);
            n = below(3) == 0 ? n : Math.min(8, text.length() - from);
            long bytes = Due.packed(text.substring(from, from + n)) | (n < 8 ? draws.nextLong() << 8 * n : 0);
            due("feed of " + text, x.feed(n, bytes), y.feed(n, bytes));
            from += n;
        }
        due("rock() of " + text, x.rock(), y.rock());
        due("fault() of " + text, x.fault(), y.fault());
    }

    // ---- calls

    private void call() {
        int p = number(0, Math.max(0, y.told(1) - 1)), q = number(0, Math.max(0, y.told(1) - 1));
        int t = below(3) == 0 ? number(0, 999999) : number(0, 30), i = number(0, Math.max(0, y.told(0) - 1));
        int a = number(0, 11), b = number(0, 11), c = number(0, 11);
        switch (below(30)) {
            case 0: { int w = number(0, 11); due("told(" + w + ")", x.told(w), y.told(w)); break; }
            case 1: { int w = number(0, 3); due("turning(" + i + ", " + w + ")", x.turning(i, w), y.turning(i, w)); break; }
            case 2: { int w = number(0, 5); due("place(" + p + ", " + w + ")", x.place(p, w), y.place(p, w)); break; }
            case 3: due("height(" + p + ", " + t + ")", x.height(p, t), y.height(p, t)); break;
            case 4: { int n = number(1, 20); due("stay(" + n + ")", x.stay(n), y.stay(n)); break; }
            case 5: case 6: due("go(" + p + ")", x.go(p), y.go(p)); break;
            case 7: due("knock(" + i + ", " + a + ")", x.knock(i, a), y.knock(i, a)); break;
            case 8: { int k = number(0, 3); due("push(" + k + ")", x.push(k), y.push(k)); break; }
            case 9: { int n = number(1, 99); due("drift(" + n + ")", x.drift(n), y.drift(n)); break; }
            case 10: case 11: { int w = number(0, 1); due("next(" + p + ", " + t + ", " + w + ")", x.next(p, t, w), y.next(p, t, w)); break; }
            case 12: { int w = number(0, 1); due("share(" + p + ", " + w + ")", x.share(p, w), y.share(p, w)); break; }
            case 13: due("stand(" + a + ", " + b + ", " + c + ", " + t + ")", x.stand(a, b, c, t), y.stand(a, b, c, t)); break;
            case 14: case 15: { int n = number(1, 40), w = number(-1, 20);
                due("way(" + p + ", " + t + ", " + n + ", " + w + ")", x.way(p, t, n, w), y.way(p, t, n, w)); break; }
            case 16: case 17: due("mail(" + p + ", " + q + ", " + t + ")", x.mail(p, q, t), y.mail(p, q, t)); break;
            case 18: due("cross(" + p + ", " + q + ", " + t + ")", x.cross(p, q, t), y.cross(p, q, t)); break;
            case 19: due("store()", x.store(), y.store()); break;
            case 20: see(p, below(2) == 0 ? number(0, 9999) : number(0, 23)); break;
            case 21: { int n = number(-1, 60); due("fits(" + n + ", " + i + ")", x.fits(n, i), y.fits(n, i)); break; }
            case 22: { if (below(4) != 0) break; int w = number(0, 2); due("look(" + w + ")", x.look(w), y.look(w)); break; }
            case 23: { int n = number(-1, 5); due("mend(" + a + ", " + b + ", " + c + ", " + n + ")", x.mend(a, b, c, n), y.mend(a, b, c, n)); break; }
            case 24: due("write(" + p + ")", x.write(p), y.write(p)); break;
            case 25: if (below(15) == 0) due("tear()", x.tear(), y.tear()); break;
            case 26: { int w = number(0, 1); due("judge(" + w + ")", x.judge(w), y.judge(w)); break; }
            case 27: { int v = below(2) == 0 ? draws.nextInt() : number(0, 9); due("seed(" + v + ")", x.seed(v), y.seed(v)); break; }
            case 28: { int n = number(0, 1); due("keep(" + n + ")", x.keep(n), y.keep(n)); break; }
            default: { int n = number(0, 1); due("goBack(" + n + ")", x.goBack(n), y.goBack(n)); break; }
        }
    }

    /** Mostly what is so for some SHIFTS, that more than none may FIT. */
    private void see(int p, int step) {
        boolean lit = below(8) == 0 ? below(2) == 0 : y.height(p, step) > 0;
        due("see(" + p + ", " + step + ", " + lit + ")", x.see(p, step, lit), y.see(p, step, lit));
    }
}
