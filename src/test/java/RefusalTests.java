import java.util.ArrayList;
import java.util.List;
import java.util.Set;
import java.util.TreeSet;
import java.util.function.Supplier;

/**
 * The calls that are refused: each bound of each number from both sides, what comes first of several,
 * and that what is refused changes nothing. First argument but one: the document.
 */
public final class RefusalTests {
    private static final int NONE = -1, UNKNOWN = -1000000001, OUTSIDE = -1000000002, NOT = -1000000003, FULL = -1000000004;
    private static final int LEAST = Integer.MIN_VALUE, MOST = Integer.MAX_VALUE, LAST_STEP = 999999;

    private interface Call {
        int on(TumblingRock x);
    }

    private interface Numbered {
        int on(TumblingRock x, int v);
    }

    public static void main(String[] args) throws Exception {
        Due.watch("RefusalTests", 5);
        Due.document(args[1]);
        values();
        ofTheRock();
        ofSteps();
        ofLight();
        ofSights();
        ofBooks();
        not();
        full();
        order();
        nothingThere();
        Due.close("RefusalTests");
    }

    // ---- what stands by

    /** Something of everything: a text begun, a ROCK, STEPS, SHIFTS, SEEN, a BOOK, one IMAGE kept, a SEED. */
    private static TumblingRock busy() {
        TumblingRock x = Due.rock("turn 10,8,8,8;turn 10,8,10;place 10 9 9;place 9 10 9;place 10 10 9;place 8 9 9;"
            + "way 0 1;way 1 2;push 1 0 0;push 0 1 0;push 3 1 7;push 4 3 5;", 4);
        Due.feed(x, "place 9 9 9");
        x.see(0, 4, true);
        x.write(3);
        x.write(1);
        x.seed(12);
        x.go(1);
        x.keep(1);
        x.stay(2);
        x.knock(0, 2);
        return x;
    }

    private static TumblingRock textFull() {
        TumblingRock x = busy();
        Due.feed(x, ";" + " ".repeat(388));
        Due.is("a text of 400", x.told(4), 400);
        return x;
    }

    private static TumblingRock sightsFull() {
        TumblingRock x = busy();
        while (x.told(9) < 20) x.see(0, 4, true);
        return x;
    }

    private static TumblingRock bookFull() {
        TumblingRock x = busy();
        while (x.told(10) < 30) x.write(0);
        return x;
    }

    private static TumblingRock empty() {
        return new TumblingRock();
    }

    private static TumblingRock turningsAlone() {
        return Due.rock("turn 10,8;", 0);
    }

    private static TumblingRock placesAlone() {
        return Due.rock("place 9 9 9;place 9 9 9;way 0 1;push 1 1 1;", 2);
    }

    /** All that the face tells of an object, its IMAGES and its text at last: it is worn out by it. */
    private static List<Integer> all(TumblingRock x) {
        List<Integer> a = new ArrayList<>();
        for (int w = 0; w < 12; w++) a.add(x.told(w));
        a.add(x.fault());
        for (int i = 0; i < 3; i++) for (int w = 0; w < 4; w++) a.add(x.turning(i, w));
        for (int p = 0; p < 5; p++) for (int w = 0; w < 6; w++) a.add(x.place(p, w));
        for (int i = -1; i < 12; i++) for (int k = 0; k < 3; k++) a.add(x.fits(i, k));
        for (int w = 0; w < 3; w++) a.add(x.look(w));
        for (int w = 0; w < 2; w++) a.add(x.judge(w));
        for (int i = -1; i < 3; i++) a.add(x.mend(0, 0, 0, i));
        a.add(x.drift(9));
        for (int image = 2; image >= 0; image--) {
            a.add(x.told(6));
            a.add(x.told(7));
            a.add(x.told(8));
            for (int i = 0; i < 3; i++) a.add(x.turning(i, 1));
            a.add(x.seed(5));
            a.add(image > 0 ? x.goBack(image - 1) : x.tear());
        }
        a.add(x.feed(1, ';'));
        a.add(x.rock());
        a.add(x.told(1));
        return a;
    }

    private static void refused(Supplier<TumblingRock> made, String call, int want, Call c) {
        TumblingRock x = made.get();
        Due.is(call, c.on(x), want);
        Due.is(call + " again", c.on(x), want);
        Due.isTrue(call + ": what is refused changes nothing", all(x).equals(all(made.get())));
    }

    private static void taken(String call, Call c) {
        Due.isTrue(call + " is no refusal", c.on(busy()) >= NONE);
    }

    /** From both sides of both bounds, and far away, where a number turns round too. */
    private static void bounds(String call, int least, int most, int refusal, Numbered c) {
        Set<Integer> beyond = new TreeSet<>(List.of(least - 1, LEAST));
        if (most < MOST) beyond.addAll(List.of(most + 1, most + 32, most + 256, 1 << 30, MOST));
        for (int v : beyond) refused(RefusalTests::busy, call + " with " + v, refusal, x -> c.on(x, v));
        taken(call + " with " + least, x -> c.on(x, least));
        taken(call + " with " + most, x -> c.on(x, most));
    }

    // ---- each bound

    private static void values() {
        Due.edge("They are far below all that is counted: -1000000001 and on.", () -> {
            int[] values = {TumblingRock.NONE, TumblingRock.UNKNOWN, TumblingRock.OUTSIDE, TumblingRock.NOT, TumblingRock.FULL};
            int[] want = {NONE, UNKNOWN, OUTSIDE, NOT, FULL};
            for (int i = 0; i < want.length; i++) Due.is("constant " + i, values[i], want[i]);
        });
    }

    private static void ofTheRock() {
        Due.edge("The n lowest bytes (n 1 .. 8)", () -> bounds("feed", 1, 8, OUTSIDE, (x, v) -> x.feed(v, 0L)));
        Due.edge("11 PLACES that are LIT at STEP (a SET). OUTSIDE.", () -> bounds("told", 0, 11, OUTSIDE, (x, v) -> x.told(v)));
        Due.edge("Of a TURNING: what = 0 N, 1 SHIFT, 2 where it stands at STEP, 3 its PART then. UNKNOWN, OUTSIDE.", () -> {
            for (int w = 0; w < 4; w++) {
                int what = w;
                bounds("turning(v, " + w + ")", 0, 1, UNKNOWN, (x, v) -> x.turning(v, what));
            }
            for (int i = 0; i < 2; i++) {
                int turning = i;
                bounds("turning(" + i + ", v)", 0, 3, OUTSIDE, (x, v) -> x.turning(turning, v));
            }
        });
        Due.edge("4 DARK, 5 LIT steps of a PERIOD. UNKNOWN, OUTSIDE.", () -> {
            bounds("place(v, 3)", 0, 3, UNKNOWN, (x, v) -> x.place(v, 3));
            bounds("place(0, v)", 0, 5, OUTSIDE, (x, v) -> x.place(0, v));
            bounds("place(3, v)", 0, 5, OUTSIDE, (x, v) -> x.place(3, v));
        });
        Due.edge("HEIGHT at a step (0 .. 999999). UNKNOWN, OUTSIDE.", () -> {
            bounds("height(v, 0)", 0, 3, UNKNOWN, (x, v) -> x.height(v, 0));
            bounds("height(1, v)", 0, LAST_STEP, OUTSIDE, (x, v) -> x.height(1, v));
        });
    }

    private static void ofSteps() {
        Due.edge("n STEPS, THE FARM stays (1 .. 999): LIGHT that it had in these. OUTSIDE, NOT: no PLACES.",
            () -> bounds("stay", 1, 999, OUTSIDE, (x, v) -> x.stay(v)));
        Due.edge("A STEP, THE FARM goes to a PLACE: 1 it is LIT there then, 0 not. UNKNOWN, NOT: no way leads there.",
            () -> bounds("go", 0, 2, UNKNOWN, (x, v) -> x.go(v == 3 ? 4 : v)));
        Due.edge("TO KNOCK (k 0 .. 11): the SHIFT then. UNKNOWN, OUTSIDE.", () -> {
            bounds("knock(v, 1)", 0, 1, UNKNOWN, (x, v) -> x.knock(v, 1));
            bounds("knock(0, v)", 0, 11, OUTSIDE, (x, v) -> x.knock(0, v));
            bounds("knock(1, v)", 0, 11, OUTSIDE, (x, v) -> x.knock(1, v));
        });
        Due.edge("A PUSH k: how many TURNINGS it shifted (by other than 0, left over by N). UNKNOWN.",
            () -> bounds("push", 0, 3, UNKNOWN, (x, v) -> x.push(v)));
        Due.edge("n STEPS BY DRAWS (1 .. 99): LIGHT in these. OUTSIDE, NOT: no TURNINGS, no PLACES.",
            () -> bounds("drift", 1, 99, OUTSIDE, (x, v) -> x.drift(v)));
    }

    private static void ofLight() {
        Due.edge("NEXT (step 0 .. 999999): what = 0 how many steps till, 1 how many it is LIT; NONE. UNKNOWN, OUTSIDE.", () -> {
            bounds("next(v, 0, 0)", 0, 3, UNKNOWN, (x, v) -> x.next(v, 0, 0));
            bounds("next(0, v, 0)", 0, LAST_STEP, OUTSIDE, (x, v) -> x.next(0, v, 0));
            bounds("next(0, v, 1)", 0, LAST_STEP, OUTSIDE, (x, v) -> x.next(0, v, 1));
            bounds("next(0, 0, v)", 0, 1, OUTSIDE, (x, v) -> x.next(0, 0, v));
        });
        Due.edge("SHARE: part = 0 above, 1 below. UNKNOWN, OUTSIDE.", () -> {
            bounds("share(v, 1)", 0, 3, UNKNOWN, (x, v) -> x.share(v, 1));
            bounds("share(0, v)", 0, 1, OUTSIDE, (x, v) -> x.share(0, v));
        });
        Due.edge("STAND (step 0 .. 999999; A, B, C 0 .. 11); NONE. OUTSIDE.", () -> {
            bounds("stand(0, 0, 0, v)", 0, LAST_STEP, OUTSIDE, (x, v) -> x.stand(0, 0, 0, v));
            bounds("stand(v, 0, 0, 0)", 0, 11, OUTSIDE, (x, v) -> x.stand(v, 0, 0, 0));
            bounds("stand(0, v, 0, 0)", 0, 11, OUTSIDE, (x, v) -> x.stand(0, v, 0, 0));
            bounds("stand(0, 0, v, 0)", 0, 11, OUTSIDE, (x, v) -> x.stand(0, 0, v, 0));
        });
        Due.edge("i = NONE the LIGHT, else where it is behind i STEPS (0 .. n). UNKNOWN, OUTSIDE (step 0 .. 999999).", () -> {
            bounds("way(v, 0, 1, 0)", 0, 3, UNKNOWN, (x, v) -> x.way(v, 0, 1, 0));
            bounds("way(0, v, 1, 0)", 0, LAST_STEP, OUTSIDE, (x, v) -> x.way(0, v, 1, 0));
            for (int n : new int[] {1, 7, 39, 40}) bounds("way(0, 0, " + n + ", v)", NONE, n, OUTSIDE, (x, v) -> x.way(0, 0, n, v));
        });
        Due.edge("BEST WAY of a farm that is at a PLACE at step t, n steps (1 .. 40)", () -> {
            bounds("way(0, 0, v, NONE)", 1, 40, OUTSIDE, (x, v) -> x.way(0, 0, v, NONE));
            bounds("way(0, 0, v, 0)", 1, 40, OUTSIDE, (x, v) -> x.way(0, 0, v, 0));
        });
        Due.edge("MAIL (0 to itself, if it is LIT then); NONE. UNKNOWN, OUTSIDE (step 0 .. 999999).", () -> {
            bounds("mail(v, 0, 0)", 0, 3, UNKNOWN, (x, v) -> x.mail(v, 0, 0));
            bounds("mail(0, v, 0)", 0, 3, UNKNOWN, (x, v) -> x.mail(0, v, 0));
            bounds("mail(0, 1, v)", 0, LAST_STEP, OUTSIDE, (x, v) -> x.mail(0, 1, v));
        });
        Due.edge("CROSS; NONE. UNKNOWN (one twice), OUTSIDE (step 0 .. 999999).", () -> {
            bounds("cross(v, 2, 0)", 0, 3, UNKNOWN, (x, v) -> x.cross(v, 2, 0));
            bounds("cross(1, v, 0)", 0, 3, UNKNOWN, (x, v) -> x.cross(v == 1 ? 0 : 1, v, 0));
            bounds("cross(0, 1, v)", 0, LAST_STEP, OUTSIDE, (x, v) -> x.cross(0, 1, v));
            for (int p = 0; p < 4; p++) {
                int twice = p;
                refused(RefusalTests::busy, "cross(" + p + ", " + p + ", 0)", UNKNOWN, x -> x.cross(twice, twice, 0));
            }
        });
    }

    private static void ofSights() {
        Due.edge("SEEN: how many. UNKNOWN, OUTSIDE (step 0 .. 9999), FULL (20).", () -> {
            bounds("see(v, 0)", 0, 3, UNKNOWN, (x, v) -> x.see(v, 0, true));
            bounds("see(3, v, true)", 0, 9999, OUTSIDE, (x, v) -> x.see(3, v, true));
            bounds("see(0, v, false)", 0, 9999, OUTSIDE, (x, v) -> x.see(0, v, false));
        });
        Due.edge("else the i-th one's SHIFT of TURNING k; NONE: not so many. UNKNOWN (k).", () -> {
            for (int i : new int[] {0, 2, 3, 1728, MOST, -2, LEAST}) bounds("fits(" + i + ", v)", 0, 1, UNKNOWN, (x, v) -> x.fits(i, v));
        });
        Due.edge("LOOK: what = 0 the PLACE, 1 the step, 2 the greater part; NONE. OUTSIDE.",
            () -> bounds("look", 0, 2, OUTSIDE, (x, v) -> x.look(v)));
        Due.edge("MEND (A, B, C 0 .. 11): i = NONE how many PUSHES, else the i-th; NONE: none, not so many. OUTSIDE.", () -> {
            for (int i : new int[] {NONE, 0, MOST, LEAST}) {
                bounds("mend(v, 0, 0, " + i + ")", 0, 11, OUTSIDE, (x, v) -> x.mend(v, 0, 0, i));
                bounds("mend(0, v, 0, " + i + ")", 0, 11, OUTSIDE, (x, v) -> x.mend(0, v, 0, i));
                bounds("mend(0, 0, v, " + i + ")", 0, 11, OUTSIDE, (x, v) -> x.mend(0, 0, v, i));
            }
        });
    }

    private static void ofBooks() {
        Due.edge("A PLACE behind THE BOOK: how many. UNKNOWN, FULL (30).", () -> bounds("write", 0, 3, UNKNOWN, (x, v) -> x.write(v)));
        Due.edge("what = 0 WRONG (NONE), 1 LIGHT of THE BOOK. OUTSIDE.", () -> bounds("judge", 0, 1, OUTSIDE, (x, v) -> x.judge(v)));
        Due.edge("THE SEED becomes v (0 .. 2147483647): what it was. OUTSIDE.", () -> {
            bounds("seed", 0, MOST, OUTSIDE, (x, v) -> x.seed(v));
            TumblingRock x = busy();
            Due.is("what it was", x.seed(MOST), 12);
            Due.is("what it was, the most", x.seed(0), MOST);
            Due.is("what it was, the least", x.seed(1), 0);
        });
        Due.edge("IMAGE i becomes what is so: 1. UNKNOWN.", () -> bounds("keep", 0, 1, UNKNOWN, (x, v) -> x.keep(v)));
        Due.edge("What is so becomes IMAGE i: 1. UNKNOWN, NOT: it was not kept.",
            () -> bounds("goBack", 0, 1, UNKNOWN, (x, v) -> {
                if (v == 0) x.keep(0);
                return x.goBack(v);
            }));
    }

    // ---- NOT and FULL

    private static void not() {
        Due.edge("NOT: no way leads there.", () -> {
            for (int p : new int[] {1, 3}) refused(RefusalTests::busy, "go(" + p + ")", NOT, x -> x.go(p));
            refused(RefusalTests::placesAlone, "go(0) from 0", NOT, x -> x.go(0));
        });
        Due.edge("LIGHT that it had in these. OUTSIDE, NOT: no PLACES.", () -> {
            refused(RefusalTests::empty, "stay(1) on nothing", NOT, x -> x.stay(1));
            refused(RefusalTests::turningsAlone, "stay(999) without places", NOT, x -> x.stay(999));
            Due.is("stay(1) without turnings", placesAlone().stay(1), 0);
        });
        Due.edge("LIGHT in these. OUTSIDE, NOT: no TURNINGS, no PLACES.", () -> {
            refused(RefusalTests::empty, "drift(1) on nothing", NOT, x -> x.drift(1));
            refused(RefusalTests::turningsAlone, "drift(1) without places", NOT, x -> x.drift(1));
            refused(RefusalTests::placesAlone, "drift(99) without turnings", NOT, x -> x.drift(99));
        });
        Due.edge("NOT: it was not kept.", () -> {
            refused(RefusalTests::busy, "goBack(0)", NOT, x -> x.goBack(0));
            Due.is("the other was", busy().goBack(1), 1);
            for (int i = 0; i < 2; i++) {
                int image = i;
                refused(RefusalTests::empty, "goBack(" + i + ") on nothing", NOT, x -> x.goBack(image));
            }
        });
    }

    private static void full() {
        Due.edge("how many it has. OUTSIDE, FULL (400).", () -> {
            for (int n = 1; n <= 8; n++) {
                int many = n;
                refused(RefusalTests::textFull, "feed(" + n + ") at 400", FULL, x -> x.feed(many, -1L));
            }
        });
        Due.edge("OUTSIDE (step 0 .. 9999), FULL (20).", () -> {
            refused(RefusalTests::sightsFull, "see at 20", FULL, x -> x.see(1, 0, false));
            TumblingRock x = sightsFull();
            Due.is("told(9)", x.told(9), 20);
            x.tear();
            Due.is("room behind tear()", x.see(0, 0, true), 1);
        });
        Due.edge("UNKNOWN, FULL (30).", () -> {
            refused(RefusalTests::bookFull, "write at 30", FULL, x -> x.write(3));
            TumblingRock x = bookFull();
            Due.is("told(10)", x.told(10), 30);
            x.tear();
            Due.is("room behind tear()", x.write(0), 1);
        });
    }

    // ---- the order

    private static void order() {
        Due.edge("REFUSALS, of several the first in this order: UNKNOWN (a TURNING, PLACE, IMAGE that there is not),"
            + " OUTSIDE (another number out of its bounds), NOT (not now, as told), FULL.", () -> {
            Supplier<TumblingRock> b = RefusalTests::busy;
            refused(b, "turning: UNKNOWN, OUTSIDE", UNKNOWN, x -> x.turning(2, 4));
            refused(b, "place: UNKNOWN, OUTSIDE", UNKNOWN, x -> x.place(4, 6));
            refused(b, "height: UNKNOWN, OUTSIDE", UNKNOWN, x -> x.height(4, -1));
            refused(b, "knock: UNKNOWN, OUTSIDE", UNKNOWN, x -> x.knock(2, 12));
            refused(b, "next: UNKNOWN, OUTSIDE twice", UNKNOWN, x -> x.next(4, -1, 2));
            refused(b, "share: UNKNOWN, OUTSIDE", UNKNOWN, x -> x.share(4, 2));
            refused(b, "way: UNKNOWN, OUTSIDE thrice", UNKNOWN, x -> x.way(4, -1, 41, -2));
            refused(b, "mail: the second UNKNOWN, OUTSIDE", UNKNOWN, x -> x.mail(0, 4, -1));
            refused(b, "mail: the first UNKNOWN, OUTSIDE", UNKNOWN, x -> x.mail(4, 0, -1));
            refused(b, "cross: one twice, OUTSIDE", UNKNOWN, x -> x.cross(1, 1, 1000000));
            refused(b, "cross: UNKNOWN, OUTSIDE", UNKNOWN, x -> x.cross(1, 4, 1000000));
            refused(b, "see: UNKNOWN, OUTSIDE", UNKNOWN, x -> x.see(4, 10000, true));
            refused(RefusalTests::sightsFull, "see: UNKNOWN, FULL", UNKNOWN, x -> x.see(4, 0, true));
            refused(RefusalTests::sightsFull, "see: OUTSIDE, FULL", OUTSIDE, x -> x.see(0, 10000, true));
            refused(RefusalTests::sightsFull, "see: all three", UNKNOWN, x -> x.see(-1, -1, true));
            refused(RefusalTests::bookFull, "write: UNKNOWN, FULL", UNKNOWN, x -> x.write(4));
            refused(RefusalTests::textFull, "feed: OUTSIDE, FULL", OUTSIDE, x -> x.feed(9, 0L));
            refused(RefusalTests::empty, "go: UNKNOWN, NOT", UNKNOWN, x -> x.go(0));
            refused(RefusalTests::empty, "stay: OUTSIDE, NOT", OUTSIDE, x -> x.stay(0));
            refused(RefusalTests::empty, "stay: OUTSIDE, NOT", OUTSIDE, x -> x.stay(1000));
            refused(RefusalTests::empty, "drift: OUTSIDE, NOT", OUTSIDE, x -> x.drift(100));
            refused(RefusalTests::placesAlone, "drift: OUTSIDE, NOT", OUTSIDE, x -> x.drift(0));
            refused(RefusalTests::empty, "goBack: UNKNOWN, NOT", UNKNOWN, x -> x.goBack(2));
        });
    }

    /** Where there is no TURNING, PLACE, PUSH at all the least number of one is refused, too. */
    private static void nothingThere() {
        Due.edge("`TumblingRock()`: No TURNINGS, no PLACES.", () -> {
            Supplier<TumblingRock> n = RefusalTests::empty;
            refused(n, "turning(0, 0)", UNKNOWN, x -> x.turning(0, 0));
            refused(n, "place(0, 0)", UNKNOWN, x -> x.place(0, 0));
            refused(n, "height(0, 0)", UNKNOWN, x -> x.height(0, 0));
            refused(n, "go(0)", UNKNOWN, x -> x.go(0));
            refused(n, "knock(0, 0)", UNKNOWN, x -> x.knock(0, 0));
            refused(n, "push(0)", UNKNOWN, x -> x.push(0));
            refused(n, "next(0, 0, 0)", UNKNOWN, x -> x.next(0, 0, 0));
            refused(n, "share(0, 0)", UNKNOWN, x -> x.share(0, 0));
            refused(n, "way(0, 0, 1, 0)", UNKNOWN, x -> x.way(0, 0, 1, 0));
            refused(n, "mail(0, 0, 0)", UNKNOWN, x -> x.mail(0, 0, 0));
            refused(n, "cross(0, 1, 0)", UNKNOWN, x -> x.cross(0, 1, 0));
            refused(n, "see(0, 0, true)", UNKNOWN, x -> x.see(0, 0, true));
            refused(n, "fits(0, 0)", UNKNOWN, x -> x.fits(0, 0));
            refused(n, "write(0)", UNKNOWN, x -> x.write(0));
            refused(n, "stand(0, 0, 12, 0)", OUTSIDE, x -> x.stand(0, 0, 12, 0));
            refused(n, "mend(0, 0, 12, 0)", OUTSIDE, x -> x.mend(0, 0, 12, 0));
        });
    }
}
