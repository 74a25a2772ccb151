/**
 * STEPS, light, what is SEEN, books, draws and IMAGES: for each sentence of the document that names a boundary
 * (too small, too large, empty, full, a wrap-around) a test of its own, counted by hand. What is refused stands in
 * RefusalTests, what THE TEXT may be in TextEdgeTests. First argument but one: the document.
 */
public final class EdgeTests {
    private static final int NONE = -1, NOT = -1000000003, FULL = -1000000004;
    private static final int LEAST = Integer.MIN_VALUE, MOST = Integer.MAX_VALUE, LAST_STEP = 999999;

    /** TURNING 0 (4): LIT at 0; TURNING 1 (3): dark at 1; PERIOD 12. PLACE 0 faces the one, 1 the other, 2 both, 3 turns from the one. */
    private static final String ROCK = "turn 10,8,8,8;turn 10,8,10;place 10 9 9;place 9 10 9;place 10 10 9;place 8 9 9;"
        + "way 0 1;way 1 2;push 1 0 0;push 0 1 0;push 3 1 7;push 4 3 5;";
    /** Three PLACES in a row, all always LIT, PERIOD 2. */
    private static final String BRIGHT = "turn 10,10;place 10 9 9;place 10 9 9;place 10 9 9;way 0 1;way 1 2;";
    /** As far as TURNINGS go: 12 each, all 0. */
    private static final String WIDEST = ("turn 9" + ",9".repeat(11) + ";").repeat(3);

    public static void main(String[] args) throws Exception {
        Due.watch("EdgeTests", 5);
        Due.document(args[1]);
        shifts();
        heights();
        periods();
        farms();
        knocks();
        nexts();
        darks();
        shares();
        stands();
        ways();
        tiedWays();
        mails();
        crosses();
        stores();
        sights();
        fits();
        looks();
        menders();
        tiedMenders();
        books();
        draws();
        drawnWays();
        images();
        Due.close("EdgeTests");
    }

    private static TumblingRock rockAsTold() {
        return Due.rock(ROCK, 4);
    }

    private static String row(int n, String first, String others) {
        return "turn " + first + ("," + others).repeat(n - 1) + ";";
    }

    // ---- 2 STEPS

    private static void shifts() {
        Due.edge("Each TURNING has a SHIFT (0 to N less 1; 0 at first).", () -> {
            for (int n = 2; n <= 12; n++) {
                for (int k = 0; k <= 11; k++) {
                    TumblingRock x = Due.rock(row(n, "9", "9"), 0);
                    Due.is("SHIFT at first", x.turning(0, 1), 0);
                    Due.is("knock(0, " + k + ") of " + n, x.knock(0, k), k % n);
                    Due.is("SHIFT behind it", x.turning(0, 1), k % n);
                }
            }
        });
        Due.edge("At step t it stands at t and SHIFT, left over by N: its PART is that number of its ROW", () -> {
            TumblingRock x = Due.rock("turn 0,1,2,3;turn 0,1,2;place 10 9 9;place 9 10 9;", 2);
            int[][] stands = {{0, 0}, {1, 1}, {2, 2}, {3, 0}, {0, 1}, {1, 2}, {2, 0}};
            for (int t = 0; t < stands.length; t++) {
                for (int i = 0; i < 2; i++) {
                    Due.is("where " + i + " stands at " + t, x.turning(i, 2), stands[t][i]);
                    Due.is("PART of " + i + " at " + t, x.turning(i, 3), stands[t][i] - 9);
                    Due.is("height(" + i + ", " + t + ")", x.height(i, t), stands[t][i] - 9);
                }
                x.stay(1);
            }
            Due.is("height(0, 999999), 3 left over", x.height(0, LAST_STEP), -6);
            Due.is("height(1, 999999), 0 left over", x.height(1, LAST_STEP), -9);
            x.knock(0, 3);
            Due.is("height(0, 0) with SHIFT 3", x.height(0, 0), -6);
            Due.is("height(0, 1) with SHIFT 3", x.height(0, 1), -9);
            Due.is("height(0, 999999) with SHIFT 3", x.height(0, LAST_STEP), -7);
        });
        Due.edge("(a TURNING that there is not: PART 0, N 1)", () -> {
            TumblingRock x = Due.rock("turn 18,18;place 9 18 18;place 10 18 18;push 0 1 1;push 1 1 1;", 2);
            Due.is("faces but TURNINGS that there are not", x.height(0, 0), 0);
            Due.is("faces one that there is", x.height(1, 1), 9);
            Due.is("PERIOD", x.told(5), 2);
            Due.is("a PUSH of those alone", x.push(0), 0);
            Due.is("a PUSH of all", x.push(1), 1);
            Due.is("mend to any of theirs", x.mend(1, 11, 11, NONE), 0);
            Due.is("all FIT", x.fits(NONE, 0), 2);
        });
    }

    private static void heights() {
        Due.edge("HEIGHT of a PLACE at step t: what it faces each TURNING by times its PART, together.", () -> {
            TumblingRock x = Due.rock("turn 18,0;turn 18,0;turn 18,0;place 18 18 18;place 0 0 0;place 18 0 18;place 9 9 18;", 4);
            int[][] want = {{243, -243}, {-243, 243}, {81, -81}, {81, -81}};
            for (int p = 0; p < 4; p++) for (int t = 0; t < 2; t++) Due.is("height(" + p + ", " + t + ")", x.height(p, t), want[p][t]);
        });
        Due.edge("It is LIT, if that is above 0.", () -> {
            TumblingRock x = Due.rock("turn 10,9,8;place 10 9 9;place 8 9 9;place 9 9 9;", 3);
            int[] set = {0b001, 0b000, 0b010, 0b001};
            for (int t = 0; t < set.length; t++) {
                Due.is("LIT at " + t, x.told(11), set[t]);
                for (int p = 0; p < 3; p++) Due.is("next(" + p + ", " + t + ", 0) is 0", x.next(p, t, 0) == 0 ? 1 : 0, set[t] >> p & 1);
                x.stay(1);
            }
        });
        Due.edge("A SET is a whole number, bit k for k.", () -> {
            TumblingRock x = Due.rock("turn 10,8;" + "place 10 9 9;place 8 9 9;".repeat(4) + "way 7 0;way 0 6;", 8);
            Due.is("LIT at 0", x.told(11), 0b01010101);
            x.stay(1);
            Due.is("LIT at 1", x.told(11), 0b10101010);
            Due.is("ways of 0", x.place(0, 3), 0b11000000);
            Due.is("ways of 7", x.place(7, 3), 1);
            Due.is("ways of 5", x.place(5, 3), 0);
        });
    }

    private static void periods() {
        Due.edge("PERIOD: the least number of steps (1 or more; 1 without TURNINGS) behind which all TURNINGS stand as they stood.", () -> {
            Due.is("of nothing", new TumblingRock().told(5), 1);
            Due.is("without TURNINGS", Due.rock("place 9 9 9;", 1).told(5), 1);
            for (int n = 2; n <= 12; n++) {
                // they stand, whatever their PARTS are: a row of like numbers is no shorter
                Due.is("of one of " + n, Due.rock(row(n, "9", "9"), 0).told(5), n);
                Due.is("of two of " + n, Due.rock(row(n, "9", "9").repeat(2), 0).told(5), n);
                Due.is("of three of " + n, Due.rock(row(n, "9", "9").repeat(3), 0).told(5), n);
            }
            int[][] want = {{2, 3, 5, 30}, {2, 4, 8, 8}, {4, 6, 10, 60}, {9, 10, 11, 990}, {12, 11, 10, 660}, {12, 11, 7, 924}, {12, 12, 11, 132}, {6, 4, 3, 12}};
            for (int[] w : want) {
                String text = row(w[0], "9", "9") + row(w[1], "9", "9") + row(w[2], "9", "9");
                Due.is("of " + w[0] + ", " + w[1] + ", " + w[2], Due.rock(text, 0).told(5), w[3]);
            }
        });
    }

    private static void farms() {
        Due.edge("THE FARM is at PLACE 0 at first, at STEP 0.", () -> {
            TumblingRock x = rockAsTold();
            Due.is("where", x.told(7), 0);
            Due.is("STEP", x.told(6), 0);
            Due.is("LIGHT, though it is LIT there at 0", x.told(8), 0);
            Due.is("where, with one PLACE alone", Due.rock("place 9 9 9;", 1).told(7), 0);
            Due.is("where, without PLACES", Due.rock("turn 0,0;", 0).told(7), NONE);
        });
        Due.edge("then STEP is one more, and LIGHT that it had one more, if it is LIT where it is then.", () -> {
            TumblingRock x = Due.rock("turn 10,8;place 10 9 9;place 8 9 9;way 0 1;", 2);
            Due.is("go(1), LIT at 1", x.go(1), 1);
            Due.is("stay(1), dark at 2", x.stay(1), 0);
            Due.is("go(0), dark at 3", x.go(0), 0);
            Due.is("stay(1), LIT at 4", x.stay(1), 1);
            Due.is("STEP", x.told(6), 4);
            Due.is("LIGHT", x.told(8), 2);
        });
        Due.edge("n STEPS, THE FARM stays (1 .. 999)", () -> {
            TumblingRock x = rockAsTold();
            Due.is("stay(999): 4 to 996", x.stay(999), 249);
            Due.is("stay(1): 1000", x.stay(1), 1);
            Due.is("STEP", x.told(6), 1000);
            Due.is("LIGHT", x.told(8), 250);
            Due.is("where", x.told(7), 0);
            TumblingRock y = Due.rock(BRIGHT, 3);
            for (int k = 1; k <= 500; k++) y.stay(999);
            Due.is("STEP behind 500 times 999", y.told(6), 499500);
            Due.is("LIGHT behind 500 times 999", y.told(8), 499500);
        });
        Due.edge("A STEP, THE FARM goes to a PLACE: 1 it is LIT there then, 0 not.", () -> {
            TumblingRock x = rockAsTold();
            Due.is("go(0) from 0: no way leads from a PLACE to itself", x.go(0), NOT);
            Due.is("go(1) at 1", x.go(1), 0);
            Due.is("go(2) at 2", x.go(2), 0);
            Due.is("go(0) from 2", x.go(0), NOT);
            Due.is("go(1) at 3", x.go(1), 1);
        });
    }

    private static void knocks() {
        Due.edge("TO KNOCK: the SHIFT of a TURNING is k more, left over by N.", () -> {
            TumblingRock x = Due.rock(row(12, "9", "9") + row(2, "9", "9") + row(11, "9", "9"), 0);
            Due.is("11 of 12", x.knock(0, 11), 11);
            Due.is("1 more", x.knock(0, 1), 0);
            Due.is("11 of 2", x.knock(1, 11), 1);
            Due.is("11 more", x.knock(1, 11), 0);
            Due.is("11 of 11", x.knock(2, 11), 0);
            Due.is("10 of 11", x.knock(2, 10), 10);
            Due.is("0 more", x.knock(2, 0), 10);
            Due.is("SHIFT 0", x.turning(0, 1), 0);
            Due.is("SHIFT 1", x.turning(1, 1), 0);
            Due.is("STEP as it was", x.told(6), 0);
        });
        Due.edge("how many TURNINGS it shifted (by other than 0, left over by N).", () -> {
            TumblingRock x = Due.rock(row(2, "9", "9") + row(3, "9", "9") + row(4, "9", "9")
                + "push 0 0 0;push 10 9 8;push 11 11 11;push 2 1 4;", 0);
            Due.is("a PUSH of 0", x.push(0), 0);
            Due.is("a PUSH of N, times", x.push(1), 0);
            for (int i = 0; i < 3; i++) Due.is("SHIFT " + i, x.turning(i, 1), 0);
            Due.is("a PUSH of 11", x.push(2), 3);
            int[] shifts = {1, 2, 3};
            for (int i = 0; i < 3; i++) Due.is("SHIFT " + i, x.turning(i, 1), shifts[i]);
            Due.is("a PUSH of one", x.push(3), 1);
            Due.is("SHIFT 1, round", x.turning(1, 1), 0);
            Due.is("a PUSH round", x.push(2), 3);
            int[] round = {0, 2, 2};
            for (int i = 0; i < 3; i++) Due.is("SHIFT " + i + " round", x.turning(i, 1), round[i]);
        });
    }

    // ---- 3 light

    private static void next(TumblingRock x, int p, int t, int till, int steps) {
        Due.is("next(" + p + ", " + t + ", 0)", x.next(p, t, 0), till);
        Due.is("next(" + p + ", " + t + ", 1)", x.next(p, t, 1), steps);
    }

    private static void nexts() {
        Due.edge("NEXT for a PLACE from step t on: how many steps till it is LIT (0: at t);", () -> {
            TumblingRock x = rockAsTold();
            next(x, 0, 0, 0, 1);
            next(x, 0, 1, 3, 1);
            next(x, 0, 3, 1, 1);
            next(x, 0, 4, 0, 1);
            // round the end of a PERIOD
            next(x, 0, 9, 3, 1);
            next(x, 2, 1, 7, 1);
            next(x, 2, 9, 3, 1);
            next(x, 0, LAST_STEP, 1, 1);
            next(x, 1, LAST_STEP, 0, 1);
            // the last of PERIOD steps
            next(Due.rock(row(12, "10", "8") + "place 10 9 9;", 1), 0, 1, 11, 1);
        });
        Due.edge("how many steps on end it is LIT then (PERIOD: always);", () -> {
            TumblingRock x = rockAsTold();
            next(x, 1, 11, 0, 2);
            next(x, 1, 8, 0, 2);
            next(x, 1, 9, 0, 1);
            next(x, 3, 0, 1, 3);
            next(x, 3, 2, 0, 2);
            next(Due.rock(row(12, "8", "10") + "place 10 9 9;", 1), 0, 0, 1, 11);
            for (int n = 2; n <= 12; n++) next(Due.rock(row(n, "10", "10") + "place 10 9 9;", 1), 0, n - 1, 0, n);
            next(Due.rock("turn 10,10;turn 9,9,9;place 10 9 9;", 1), 0, 5, 0, 6);
        });
        Due.edge("NONE: never. DARK", () -> {
            next(Due.rock("turn 10,10;place 8 9 9;", 1), 0, 0, NONE, NONE);
            next(Due.rock("place 18 18 18;", 1), 0, LAST_STEP, NONE, NONE);
            // by their SHIFTS alone both turnings meet or do not
            TumblingRock x = Due.rock("turn 10,8;turn 10,8;place 10 10 9;", 1);
            next(x, 0, 1, 1, 1);
            x.knock(1, 1);
            next(x, 0, 1, NONE, NONE);
            x.knock(0, 1);
            next(x, 0, 1, 0, 1);
        });
    }

    private static void darks() {
        Due.edge("DARK: its most steps on end without light (PERIOD: always).", () -> {
            Due.is("always LIT", Due.rock(BRIGHT, 3).place(0, 4), 0);
            Due.is("never LIT", Due.rock("turn 10,10,10;place 8 9 9;", 1).place(0, 4), 3);
            Due.is("never LIT, by HEIGHT 0", Due.rock(row(12, "9", "9") + row(11, "9", "9") + "place 9 9 9;", 1).place(0, 4), 132);
            Due.is("without TURNINGS", Due.rock("place 9 9 9;", 1).place(0, 4), 1);
            Due.is("LIT once", Due.rock(row(12, "10", "8") + "place 10 9 9;", 1).place(0, 4), 11);
            Due.is("dark once", Due.rock(row(12, "8", "10") + "place 10 9 9;", 1).place(0, 4), 1);
            // from the end of a PERIOD into the next: dark at 4, 0, 1 and at 7, 8
            TumblingRock x = Due.rock("turn 8,8,10,10,8;place 10 9 9;", 1);
            for (int k = 0; k < 5; k++) {
                Due.is("DARK round the end", x.place(0, 4), 3);
                Due.is("LIT steps of a PERIOD", x.place(0, 5), 2);
                x.knock(0, 1);
                x.stay(2);
            }
            TumblingRock y = Due.rock("turn 8,10,8,8,10,10,8;place 10 9 9;", 1);
            Due.is("the longer of two", y.place(0, 4), 2);
            Due.is("most of it behind the end", Due.rock("turn 8,8,8,8,8,8,8,10,8;place 10 9 9;", 1).place(0, 4), 8);
        });
        Due.edge("4 DARK, 5 LIT steps of a PERIOD.", () -> {
            Due.is("none", Due.rock("turn 8,8;place 10 9 9;", 1).place(0, 5), 0);
            Due.is("all", Due.rock("turn 10,10;turn 9,9,9;place 10 9 9;", 1).place(0, 5), 6);
            Due.is("all but one", Due.rock(row(12, "8", "10") + "place 10 9 9;", 1).place(0, 5), 11);
            Due.is("of 990", Due.rock(row(9, "10", "8") + row(10, "10", "8") + row(11, "10", "7") + "place 9 9 10;", 1).place(0, 5), 90);
            Due.is("without TURNINGS", Due.rock("place 9 9 9;", 1).place(0, 5), 0);
        });
    }

    private static void share(String text, int above, int below) {
        TumblingRock x = Due.rock(text, 1);
        Due.is("above, of " + text, x.share(0, 0), above);
        Due.is("below, of " + text, x.share(0, 1), below);
    }

    private static void shares() {
        Due.edge("SHARE: LIT steps of a PERIOD as a part of it, in lowest terms.", () -> {
            share("turn 8,8,8;place 10 9 9;", 0, 1);
            share("place 9 9 9;", 0, 1);
            share("turn 10,10,10;place 10 9 9;", 1, 1);
            share("turn 10,10,8,8,8;place 10 9 9;", 2, 5);
            share("turn 10,10,8,8;place 10 9 9;", 1, 2);
            share("turn 10,10,10,10,10,10,10,10,8,8,8,8;place 10 9 9;", 2, 3);
            share(row(12, "8", "10") + "place 10 9 9;", 11, 12);
            share(row(9, "10", "8") + row(10, "9", "9") + row(11, "9", "9") + "place 10 9 9;", 1, 9);
        });
    }

    private static void stands() {
        Due.edge("STAND as told: the least step from t on at which the TURNINGS stand at A, B, C (those that there are);", () -> {
            TumblingRock x = Due.rock("turn 9,9,9;", 0);
            Due.is("at t", x.stand(2, 0, 0, 2), 2);
            Due.is("a step behind: a PERIOD on", x.stand(2, 0, 0, 3), 5);
            Due.is("those that there are not", x.stand(0, 11, 11, 1), 3);
            Due.is("from the last step on", x.stand(2, 0, 0, LAST_STEP), 1000001);
            Due.is("at the last step", x.stand(0, 0, 0, LAST_STEP), LAST_STEP);
            x.knock(0, 2);
            Due.is("with SHIFT 2", x.stand(2, 0, 0, 1), 3);
            TumblingRock none = new TumblingRock();
            Due.is("without TURNINGS", none.stand(11, 11, 11, 0), 0);
            Due.is("without TURNINGS, at the last step", none.stand(0, 0, 0, LAST_STEP), LAST_STEP);
            Due.is("11 of 12", Due.rock(WIDEST, 0).stand(11, 11, 11, 0), 11);
            TumblingRock y = Due.rock(row(9, "9", "9") + row(10, "9", "9") + row(11, "9", "9"), 0);
            Due.is("the last of a PERIOD", y.stand(8, 9, 10, 0), 989);
            Due.is("a PERIOD on, but one", y.stand(8, 9, 10, 990), 1979);
        });
        Due.edge("(those that there are); NONE: never.", () -> {
            TumblingRock x = Due.rock("turn 9,9;turn 9,9,9,9;turn 9,9,9;", 0);
            Due.is("A is N", x.stand(2, 0, 0, 0), NONE);
            Due.is("B is N", x.stand(0, 4, 0, 0), NONE);
            Due.is("C is N", x.stand(0, 0, 3, 0), NONE);
            Due.is("all are most", x.stand(1, 3, 2, 0), 11);
            Due.is("they never meet", x.stand(0, 3, 0, 0), NONE);
            x.knock(0, 1);
            Due.is("behind a knock they do", x.stand(0, 3, 0, 0), 3);
            Due.is("but not as ahead of it", x.stand(1, 3, 0, 0), NONE);
        });
    }

    private static void way(TumblingRock x, int step, int light, int... row) {
        int n = row.length - 1;
        String call = "way(" + row[0] + ", " + step + ", " + n + ", ";
        Due.is(call + "NONE)", x.way(row[0], step, n, NONE), light);
        for (int i = 0; i <= n; i++) Due.is(call + i + ")", x.way(row[0], step, n, i), row[i]);
    }

    private static void ways() {
        Due.edge("n steps (1 .. 40): the most LIGHT;", () -> {
            TumblingRock x = rockAsTold();
            Due.is("40 steps: 1 at its two of three", x.way(1, 0, 40, NONE), 30);
            Due.is("PLACE 3, without ways: at three of four", x.way(3, 0, 40, NONE), 30);
            Due.is("39 steps", x.way(3, 0, 39, NONE), 30);
            // LIT at t does not count, LIT at t and n does
            TumblingRock y = Due.rock("turn 10,8,8,8;place 10 9 9;", 1);
            way(y, 0, 0, 0, 0);
            way(y, 3, 1, 0, 0);
            way(y, 0, 0, 0, 0, 0, 0);
            way(y, 0, 1, 0, 0, 0, 0, 0);
            way(y, LAST_STEP, 1, 0, 0);
            Due.is("40 steps, LIT at the last", y.way(0, 0, 40, NONE), 10);
            TumblingRock z = Due.rock(BRIGHT, 3);
            Due.is("40 steps in the light", z.way(0, 0, 40, NONE), 40);
            Due.is("without TURNINGS", Due.rock("place 18 18 18;", 1).way(0, 0, 40, NONE), 0);
        });
        Due.edge("else where it is behind i STEPS (0 .. n).", () -> {
            TumblingRock x = Due.rock("turn 10,8;place 8 9 9;place 9 9 9;place 10 9 9;way 0 1;way 1 2;", 3);
            way(x, 0, 1, 2, 1, 2);
            way(x, 0, 1, 0, 0);
            way(x, 1, 1, 0, 0, 0);
            way(x, 1, 1, 2, 2);
            for (int p = 0; p < 3; p++) Due.is("behind 0 steps", x.way(p, 0, 40, 0), p);
            Due.is("THE FARM is where it was", x.told(7), 0);
            Due.is("STEP is as it was", x.told(6), 0);
        });
    }

    private static void tiedWays() {
        Due.edge("of like ones the first (STEP by STEP the lesser PLACE): where it is behind i steps.", () -> {
            // always LIT, or never: down to PLACE 0 as soon as may be, and there it stays
            way(Due.rock(BRIGHT, 3), 0, 3, 2, 1, 0, 0);
            way(Due.rock("turn 8,8;place 10 9 9;place 10 9 9;place 10 9 9;way 0 1;way 1 2;", 3), 5, 0, 2, 1, 0, 0);
            way(Due.rock(BRIGHT, 3), 0, 1, 1, 0);
            // it stays rather than go to a greater one
            way(Due.rock("turn 10,10;place 10 9 9;place 10 9 9;place 10 9 9;way 1 2;", 3), 0, 3, 1, 1, 1, 1);
            // 3 is LIT at all, 1 and 2 at the first, 0 never: the lesser of the first steps wins, then light calls it back
            String text = "turn 10,10,10;turn 9,10,9;place 8 9 9;place 9 10 9;place 9 10 9;place 10 9 9;way 3 2;way 3 1;way 1 0;";
            way(Due.rock(text, 4), 0, 3, 3, 1, 3, 3);
            way(Due.rock(text, 4), 1, 2, 3, 3, 3);
            way(Due.rock(text, 4), 0, 1, 3, 1);
        });
    }

    private static void mails() {
        Due.edge("MAIL from a PLACE to another one at step t: it is only where it is LIT (at t and at each step); it may stay: the fewest steps; NONE: never.",
            EdgeTests::mail);
        Due.edge("MAIL (0 to itself, if it is LIT then); NONE.", () -> {
            TumblingRock x = Due.rock("turn 10,10,8;place 10 9 9;", 1);
            int[] want = {0, 0, NONE, 0};
            for (int t = 0; t < 4; t++) Due.is("mail(0, 0, " + t + ")", x.mail(0, 0, t), want[t]);
            Due.is("at the last step, 0 left over", x.mail(0, 0, LAST_STEP), 0);
            Due.is("without TURNINGS", Due.rock("place 9 9 9;", 1).mail(0, 0, 0), NONE);
        });
    }

    private static void mail() {
        // PLACE 0 is always LIT, 1 at 3 of 4 alone, 2 never, 3 always but without a way
        TumblingRock x = Due.rock("turn 10,10;turn 8,8,8,10;place 10 9 9;place 9 10 9;place 9 9 9;place 10 9 9;way 0 1;way 2 0;way 2 3;", 4);
        Due.is("it stays till 3", x.mail(0, 1, 0), 3);
        Due.is("it goes at once", x.mail(0, 1, 2), 1);
        Due.is("LIT there at t is a step too early", x.mail(0, 1, 3), 4);
        Due.is("from 1 at 3", x.mail(1, 0, 3), 1);
        Due.is("from 1 in the dark", x.mail(1, 0, 0), NONE);
        Due.is("to 2, never LIT", x.mail(0, 2, 0), NONE);
        Due.is("from 2, never LIT", x.mail(2, 0, 0), NONE);
        Due.is("to 3, through 2 alone", x.mail(0, 3, 0), NONE);
        Due.is("at the last step, 3 left over", x.mail(0, 1, LAST_STEP), 4);
        // longer than a PERIOD: seven ways, PERIOD 2
        StringBuilder line = new StringBuilder("turn 10,10;" + "place 10 9 9;".repeat(8));
        for (int p = 0; p < 7; p++) line.append("way ").append(p).append(" ").append(p + 1).append(";");
        TumblingRock y = Due.rock(line.toString(), 8);
        Due.is("from end to end", y.mail(0, 7, 0), 7);
        Due.is("and back", y.mail(7, 0, 1), 7);
        Due.is("the longer half", y.mail(3, 7, 0), 4);
        // each second PLACE but once in 12: a PERIOD for each two ways
        TumblingRock v = Due.rock("turn 10,10;" + row(11, "8", "8").replace(";", ",10;") + "place 10 9 9;place 9 10 9;".repeat(4)
            + line.substring(line.indexOf("way")), 8);
        Due.is("almost four PERIODS", v.mail(0, 7, 0), 47);
        Due.is("four PERIODS", v.mail(0, 7, 11), 48);
        // LIT where both others peak, once in 132
        TumblingRock z = Due.rock("turn 18,18;turn 0" + ",0".repeat(10) + ",18;turn 0" + ",0".repeat(9) + ",18;place 10 9 9;place 8 10 10;way 0 1;", 2);
        Due.is("it stays 130", z.mail(0, 1, 0), 131);
        Due.is("a whole PERIOD", z.mail(0, 1, 131), 132);
        // 1 is LIT when 0 and 2 are dark
        TumblingRock w = Due.rock("turn 10,8;place 10 9 9;place 8 9 9;place 10 9 9;way 0 1;way 1 2;", 3);
        Due.is("hop by hop in the light", w.mail(0, 2, 0), 2);
        Due.is("a step late", w.mail(0, 2, 1), NONE);
        w.knock(0, 1);
        Due.is("behind a knock", w.mail(0, 2, 1), 2);
    }

    private static void crosses() {
        Due.edge("CROSS of two PLACES: the least step from t on at which both are LIT and as high as one another; NONE: never.", () -> {
            TumblingRock x = Due.rock("turn 10,9,8;place 10 9 9;place 10 9 9;place 11 9 9;place 8 9 9;place 9 9 9;", 5);
            Due.is("at t", x.cross(0, 1, 0), 0);
            Due.is("a step behind", x.cross(0, 1, 1), 3);
            Due.is("the other way round", x.cross(1, 0, 1), 3);
            Due.is("at the last step, 0 left over", x.cross(0, 1, LAST_STEP), LAST_STEP);
            Due.is("from 999998 on", x.cross(0, 1, 999998), LAST_STEP);
            Due.is("both LIT, never as high", x.cross(0, 2, 0), NONE);
            Due.is("as high, but dark", x.cross(0, 4, 0), NONE);
            Due.is("never LIT both", x.cross(0, 3, 0), NONE);
            x.knock(0, 1);
            Due.is("behind a knock", x.cross(0, 1, 0), 2);
            Due.is("behind a knock, from the last step on", x.cross(0, 1, LAST_STEP), 1000001);
            // the rows are like but for their lengths; 2 is as high as 0 where both turnings have like PARTS
            TumblingRock y = Due.rock(row(12, "10", "11") + row(11, "10", "11") + "place 10 9 9;place 9 10 9;place 8 11 9;", 3);
            Due.is("at 1 both are 2", y.cross(0, 1, 1), 1);
            Due.is("0 and 2 at 0", y.cross(0, 2, 0), 0);
            Due.is("0 and 2, unlike at 11 and 12", y.cross(0, 2, 11), 13);
            TumblingRock z = Due.rock("turn 10" + ",8".repeat(11) + ";turn 10" + ",8".repeat(10) + ";place 10 9 9;place 9 10 9;", 2);
            Due.is("a whole PERIOD but one", z.cross(0, 1, 1), 132);
        });
    }

    private static void stores() {
        Due.edge("STORE: the PLACE of the least DARK; of like ones the least.", () -> {
            Due.is("of four", rockAsTold().store(), 1);
            Due.is("all alike", Due.rock(BRIGHT, 3).store(), 0);
            Due.is("all never LIT", Due.rock("turn 8,8;place 9 9 9;place 10 9 9;", 2).store(), 0);
            Due.is("the last of eight", Due.rock("turn 8,10;" + "place 9 9 9;".repeat(7) + "place 10 9 9;", 8).store(), 7);
            Due.is("two of eight alike", Due.rock("turn 8,10;" + "place 9 9 9;".repeat(6) + "place 10 9 9;".repeat(2), 8).store(), 6);
            TumblingRock x = Due.rock("turn 10,8;turn 10,8;place 10 10 9;place 10 8 9;", 2);
            Due.is("0 is LIT each second step, 1 never", x.store(), 0);
            x.knock(0, 1);
            Due.is("behind a knock it is the other", x.store(), 1);
        });
        Due.edge("STORE; NONE without PLACES.", () -> {
            Due.is("of nothing", new TumblingRock().store(), NONE);
            Due.is("of TURNINGS alone", Due.rock("turn 10,10;", 0).store(), NONE);
            Due.is("of a PLACE alone", Due.rock("place 9 9 9;", 1).store(), 0);
        });
    }

    // ---- what was SEEN

    private static void sights() {
        Due.edge("SEEN (20 at most): at a step (0 .. 9999) a PLACE was LIT or was not.", () -> {
            TumblingRock x = rockAsTold();
            for (int k = 1; k <= 19; k++) Due.is("see " + k, x.see(0, 9996, true), k);
            Due.is("the twentieth, at 9999", x.see(1, 9999, true), 20);
            Due.is("one more", x.see(0, 0, true), FULL);
            Due.is("told(9)", x.told(9), 20);
            Due.is("SHIFT 0 of those that FIT", x.fits(0, 0), 0);
            Due.is("all twenty count", x.fits(NONE, 0), 2);
            Due.is("SHIFT 1 of the first", x.fits(0, 1), 0);
            Due.is("SHIFT 1 of the second", x.fits(1, 1), 2);
            TumblingRock y = rockAsTold();
            y.see(0, 9999, true);
            Due.is("at 9999, 3 left over", y.fits(0, 0), 1);
        });
        Due.edge("THE BOOK is empty, nothing is SEEN: how many both had.", () -> {
            Due.is("of nothing", new TumblingRock().tear(), 0);
            TumblingRock x = rockAsTold();
            for (int k = 0; k < 20; k++) x.see(0, 0, k > 0);
            Due.is("none FIT", x.fits(NONE, 0), 0);
            for (int k = 0; k < 30; k++) x.write(k % 4);
            Due.is("both full", x.tear(), 50);
            Due.is("told(9)", x.told(9), 0);
            Due.is("told(10)", x.told(10), 0);
            Due.is("all FIT", x.fits(NONE, 0), 12);
            Due.is("the last that FITS", x.fits(11, 1), 2);
            Due.is("WRONG", x.judge(0), NONE);
            Due.is("LIGHT", x.judge(1), 0);
            Due.is("once more", x.tear(), 0);
            x.see(0, 1, true);
            Due.is("the first that FITS", x.fits(0, 0), 3);
            Due.is("SEEN alone", x.tear(), 1);
            Due.is("the first of all", x.fits(0, 0), 0);
            x.write(0);
            x.write(0);
            Due.is("THE BOOK alone", x.tear(), 2);
        });
    }

    private static void fits() {
        Due.edge("FITS: SHIFTS of all TURNINGS by which all is as SEEN: how many; the i-th (that of TURNING 0 counts first, then 1, 2)", () -> {
            TumblingRock x = Due.rock(WIDEST, 0);
            Due.is("as many as may be", x.fits(NONE, 0), 1728);
            int[][] rows = {{0, 0, 0, 0}, {11, 0, 0, 11}, {12, 0, 1, 0}, {143, 0, 11, 11}, {144, 1, 0, 0}, {1727, 11, 11, 11}};
            for (int[] r : rows) for (int k = 0; k < 3; k++) Due.is("fits(" + r[0] + ", " + k + ")", x.fits(r[0], k), r[k + 1]);
            Due.is("one too many", x.fits(1728, 0), NONE);
            TumblingRock y = Due.rock("turn 9,9;turn 9,9,9;turn 9,9;", 0);
            int[][] all = {{0, 0, 0}, {0, 0, 1}, {0, 1, 0}, {0, 1, 1}, {0, 2, 0}, {0, 2, 1}, {1, 0, 0}, {1, 0, 1}};
            for (int i = 0; i < all.length; i++) for (int k = 0; k < 3; k++) Due.is("fits(" + i + ", " + k + ")", y.fits(i, k), all[i][k]);
        });
        Due.edge("i = NONE how many (k is not looked at; without TURNINGS the row of none: 1, if all is as SEEN)", () -> {
            TumblingRock x = rockAsTold();
            for (int k : new int[] {0, 1, 2, -1, LEAST, MOST}) Due.is("fits(NONE, " + k + ")", x.fits(NONE, k), 12);
            Due.is("of nothing", new TumblingRock().fits(NONE, 0), 1);
            TumblingRock y = Due.rock("place 18 18 18;", 1);
            Due.is("without TURNINGS", y.fits(NONE, 0), 1);
            y.see(0, 0, false);
            Due.is("as SEEN", y.fits(NONE, MOST), 1);
            y.see(0, 9999, true);
            Due.is("not as SEEN", y.fits(NONE, 0), 0);
            y.tear();
            Due.is("nothing SEEN", y.fits(NONE, 0), 1);
        });
        Due.edge("else the i-th one's SHIFT of TURNING k; NONE: not so many.", () -> {
            TumblingRock x = rockAsTold();
            Due.is("the last", x.fits(11, 0), 3);
            Due.is("as many as there are", x.fits(12, 0), NONE);
            Due.is("the most", x.fits(MOST, 1), NONE);
            Due.is("less than NONE", x.fits(-2, 1), NONE);
            Due.is("the least", x.fits(LEAST, 0), NONE);
            x.see(0, 0, true);
            x.see(0, 0, false);
            Due.is("where none FIT", x.fits(0, 0), NONE);
        });
    }

    private static void look(TumblingRock x, int p, int step, int part) {
        Due.is("look(0)", x.look(0), p);
        Due.is("look(1)", x.look(1), step);
        Due.is("look(2)", x.look(2), part);
    }

    private static void looks() {
        Due.edge("LOOK: of all PLACES and steps 0 to 23 that by which those that FIT are parted most evenly (the greater of both parts is least)", () -> {
            look(rockAsTold(), 1, 0, 8);
            // SHIFTS 2 to 5 FIT: step 1 parts them one and three, step 2 in halves
            TumblingRock x = Due.rock("turn 10,10,8,8,8,8;place 10 9 9;", 1);
            x.see(0, 0, false);
            look(x, 0, 2, 2);
            // more that are LIT than not are the greater part, too
            TumblingRock y = Due.rock("turn 10,10,10,8;place 10 9 9;", 1);
            look(y, 0, 0, 3);
            look(Due.rock("turn 8,8,8,10;place 10 9 9;", 1), 0, 0, 3);
        });
        Due.edge("of all PLACES and steps 0 to 23", () -> {
            peak(23, 1, 23, 9);
            peak(24, NONE, NONE, NONE);
        });
        Due.edge("of like ones the least step, then the least PLACE;", () -> {
            look(Due.rock("turn 10,8;place 10 9 9;place 8 9 9;", 2), 0, 0, 1);
            look(Due.rock("turn 10,8;place 9 9 9;place 8 9 9;place 10 9 9;", 3), 1, 0, 1);
            // PLACE 1 parts those that FIT at 0, PLACE 0 but at 1: the step counts first
            TumblingRock x = Due.rock("turn 10,9,8,10;place 10 9 9;place 8 9 9;", 2);
            x.see(0, 0, false);
            look(x, 1, 0, 1);
        });
        Due.edge("NONE: fewer than two FIT, or by none are they parted.", () -> {
            look(new TumblingRock(), NONE, NONE, NONE);
            look(Due.rock("place 18 18 18;", 1), NONE, NONE, NONE);
            look(Due.rock("turn 10,8;", 0), NONE, NONE, NONE);
            look(Due.rock("turn 10,10;place 10 9 9;place 8 9 9;", 2), NONE, NONE, NONE);
            TumblingRock x = Due.rock("turn 10,8;place 10 9 9;", 1);
            look(x, 0, 0, 1);
            x.see(0, 0, true);
            look(x, NONE, NONE, NONE);
            x.see(0, 0, false);
            look(x, NONE, NONE, NONE);
            x.tear();
            look(x, 0, 0, 1);
            // both are LIT or both dark: those that FIT are two, but never parted
            TumblingRock y = Due.rock("turn 10,8,10,8;place 10 9 9;", 1);
            y.see(0, 0, true);
            Due.is("two FIT", y.fits(NONE, 0), 2);
            look(y, NONE, NONE, NONE);
        });
    }

    /** PLACE 1 is LIT where both turnings peak; its peaks ahead of the last are SEEN dark: ten FIT, parted by the last alone. */
    private static void peak(int last, int p, int step, int part) {
        TumblingRock x = Due.rock(row(11, "10", "8") + row(12, "10", "8") + "place 10 9 9;place 10 10 9;", 2);
        x.see(0, last, true);
        x.see(1, last - 22, false);
        x.see(1, last - 11, false);
        Due.is("fits(NONE, 0)", x.fits(NONE, 0), 10);
        look(x, p, step, part);
    }

    private static void mend(TumblingRock x, int a, int b, int c, int... row) {
        String call = "mend(" + a + ", " + b + ", " + c + ", ";
        Due.is(call + "NONE)", x.mend(a, b, c, NONE), row.length);
        for (int i = 0; i < row.length; i++) Due.is(call + i + ")", x.mend(a, b, c, i), row[i]);
        Due.is(call + row.length + ")", x.mend(a, b, c, row.length), NONE);
    }

    private static void menders() {
        Due.edge("MEND: the fewest PUSHES (each as often as may be) by which SHIFTS (of those TURNINGS that there are) become A, B, C;", () -> {
            TumblingRock x = Due.rock(row(9, "9", "9") + row(10, "9", "9") + row(11, "9", "9") + "push 1 1 1;", 0);
            Due.is("a whole PERIOD of pushes but one", x.mend(8, 9, 10, NONE), 989);
            Due.is("the last of them", x.mend(8, 9, 10, 988), 0);
            Due.is("one too many", x.mend(8, 9, 10, 989), NONE);
            mend(x, 0, 0, 0);
            x.push(0);
            Due.is("nearer by one", x.mend(8, 9, 10, NONE), 988);
            Due.is("back to 0: round", x.mend(0, 0, 0, NONE), 989);
            TumblingRock y = Due.rock(row(12, "9", "9") + "push 1 0 0;push 5 7 7;", 0);
            mend(y, 11, 3, 4, 0, 1, 1);
            mend(y, 10, 11, 11, 1, 1);
            mend(y, 6, 0, 0, 0, 1);
            TumblingRock far = Due.rock(WIDEST + "push 1 0 0;push 0 1 0;push 0 0 1;", 0);
            Due.is("33 pushes", far.mend(11, 11, 11, NONE), 33);
            int[] at = {0, 0, 10, 0, 11, 1, 21, 1, 22, 2, 32, 2};
            for (int k = 0; k < at.length; k += 2) Due.is("the push " + at[k], far.mend(11, 11, 11, at[k]), at[k + 1]);
        });
        Due.edge("i = NONE how many PUSHES, else the i-th; NONE: none, not so many.", () -> {
            TumblingRock x = Due.rock("turn 9,9,9,9;turn 9,9;push 2 0 0;push 0 0 0;", 0);
            mend(x, 2, 0, 0, 0);
            for (int i = -1; i < 3; i++) {
                Due.is("A that no PUSH makes", x.mend(1, 0, 0, i), NONE);
                Due.is("B that no PUSH makes", x.mend(0, 1, 0, i), NONE);
                Due.is("A is N", x.mend(4, 0, 0, i), NONE);
                Due.is("B is N", x.mend(0, 2, 0, i), NONE);
            }
            mend(x, 0, 0, 11);
            Due.is("less than NONE", x.mend(2, 0, 0, -2), NONE);
            Due.is("the least", x.mend(2, 0, 0, LEAST), NONE);
            Due.is("the most", x.mend(2, 0, 0, MOST), NONE);
            Due.is("without PUSHES", Due.rock("turn 9,9;", 0).mend(1, 0, 0, NONE), NONE);
            mend(Due.rock("turn 9,9;", 0), 0, 5, 6);
            mend(new TumblingRock(), 11, 11, 11);
            TumblingRock y = Due.rock(WIDEST, 0);
            y.knock(2, 11);
            mend(y, 0, 0, 11);
            Due.is("C that no PUSH makes", y.mend(0, 0, 0, NONE), NONE);
        });
    }

    private static void tiedMenders() {
        Due.edge("of like ones the first row (PUSH by PUSH the lesser one): the i-th; NONE.", () -> {
            TumblingRock x = Due.rock("turn 9,9,9,9;turn 9,9,9,9;push 0 1 0;push 1 0 0;push 1 0 0;push 1 1 0;", 0);
            mend(x, 1, 0, 0, 1);
            mend(x, 2, 0, 0, 1, 1);
            mend(x, 1, 2, 0, 0, 3);
            mend(x, 2, 2, 0, 3, 3);
            mend(x, 2, 1, 0, 1, 3);
            x.knock(0, 3);
            mend(x, 0, 1, 0, 3);
            mend(x, 1, 0, 0, 1, 1);
        });
    }

    // ---- books, draws, images

    private static TumblingRock book(int... places) {
        TumblingRock x = rockAsTold();
        for (int k = 0; k < places.length; k++) Due.is("write " + k, x.write(places[k]), k + 1);
        return x;
    }

    private static void judged(String what, int wrong, int light, int... places) {
        TumblingRock x = book(places);
        Due.is(what + ": WRONG", x.judge(0), wrong);
        Due.is(what + ": LIGHT", x.judge(1), light);
    }

    private static void books() {
        Due.edge("THE BOOK tells where a farm was, STEP by STEP (30 at most):", () -> {
            TumblingRock x = rockAsTold();
            for (int k = 1; k <= 29; k++) Due.is("write " + k, x.write(1), k);
            Due.is("the thirtieth", x.write(3), 30);
            Due.is("one more", x.write(1), FULL);
            Due.is("told(10)", x.told(10), 30);
            Due.is("WRONG, the last", x.judge(0), 29);
            // 1 is dark at 1, 4, .. 28; 3 is LIT at 29
            Due.is("LIGHT of thirty", x.judge(1), 20);
        });
        Due.edge("WRONG: the first PLACE (from the second on) to which no way leads from the one ahead, and which is another one; NONE;", () -> {
            judged("empty", NONE, 0);
            TumblingRock x = rockAsTold();
            x.knock(0, 1);
            Due.is("empty, behind a knock", x.judge(1), 0);
            judged("one alone, not where THE FARM is", NONE, 0, 3);
            judged("it stays where no way leads", NONE, 1, 3, 3);
            judged("all by ways", NONE, 3, 2, 1, 0, 1, 2, 1);
            judged("the second", 1, 1, 0, 2);
            judged("the third", 2, 2, 0, 0, 3);
            judged("the first of two", 1, 2, 0, 3, 0);
            judged("behind a wrong one all is right", 1, 4, 0, 2, 1, 1, 0);
        });
        Due.edge("LIGHT of it, the first told being where it is at step 0 (that counts, too).", () -> {
            judged("step 0 alone", NONE, 1, 0);
            judged("dark at 0", NONE, 0, 3);
            judged("LIT at 0 and 4", NONE, 2, 0, 0, 0, 0, 0);
            TumblingRock x = book(0, 0);
            x.stay(4);
            Due.is("STEP is no part of it", x.judge(1), 1);
            x.knock(0, 3);
            Due.is("by the SHIFTS that are", x.judge(1), 1);
            x.knock(0, 3);
            Due.is("by the SHIFTS that are, LIT at 2", x.judge(1), 0);
        });
    }

    private static void draws() {
        Due.edge("THE SEED (0 at first: each DRAW it becomes it times 1103515245 and 12345, left over by 2 to the 31;", () -> {
            Due.is("0 at first", new TumblingRock().seed(0), 0);
            // without ways each step is one DRAW, if that is no knock
            TumblingRock x = Due.rock("turn 10,10;place 10 9 9;", 1);
            // from the greatest: 1103515245 less than 2 to the 31, and 12345; of 8 it is 15929, 1 left over
            x.seed(MOST);
            Due.is("drift(1)", x.drift(1), 1);
            Due.is("behind the greatest", x.seed(1), 1043980748);
            Due.is("drift(1)", x.drift(1), 1);
            Due.is("behind 1", x.seed(0), 1103527590);
        });
        Due.edge("the DRAW of n is it / 65536, left over by n)", () -> {
            // 0 becomes 12345: 0 of 8, a knock; then 21468 of 2 is 0, 9988 of 2 is 0
            TumblingRock x = Due.rock("turn 10,8;place 10 9 9;place 8 9 9;way 0 1;", 2);
            Due.is("drift(1): a knock of 0", x.drift(1), 0);
            Due.is("SHIFT", x.turning(0, 1), 0);
            Due.is("where: with a KNOCK it stays", x.told(7), 0);
            Due.is("STEP goes on", x.told(6), 1);
            Due.is("three DRAWS", x.seed(0), 654583775);
            // 80: 3576 of 8 is 0, 9900 of 1 is 0, 20047 of 2 is 1: knocked, LIT at 1 where it stays
            TumblingRock y = Due.rock("turn 10,8;place 10 9 9;place 8 9 9;way 0 1;", 2);
            y.seed(80);
            Due.is("drift(1): a knock of 1", y.drift(1), 1);
            Due.is("SHIFT", y.turning(0, 1), 1);
            Due.is("where", y.told(7), 0);
        });
        Due.edge("n STEPS BY DRAWS (1 .. 99): LIGHT in these.", () -> {
            TumblingRock x = Due.rock(BRIGHT, 3);
            Due.is("drift(99)", x.drift(99), 99);
            Due.is("drift(1)", x.drift(1), 1);
            Due.is("STEP", x.told(6), 100);
            Due.is("LIGHT", x.told(8), 100);
        });
    }

    private static void drawnWays() {
        Due.edge("else THE FARM goes to the i-th of the PLACES to which ways lead (rising), i a DRAW of how many there are", () -> {
            // 1 draws 16838 (6 of 8), 5758 (1 of 3); 10113 (1 of 8), 17515 (0 of 1); 31051 (3 of 8), 5627 (2 of 3)
            TumblingRock x = Due.rock("turn 9,9;" + "place 9 9 9;".repeat(8) + "way 0 7;way 5 0;way 0 1;", 8);
            x.seed(1);
            int[] where = {5, 0, 7};
            for (int k = 0; k < where.length; k++) {
                x.drift(1);
                Due.is("where behind " + (k + 1), x.told(7), where[k]);
            }
            // of one way there is a DRAW, too: 23010 (2 of 8), 7419
            x.drift(1);
            Due.is("back", x.told(7), 0);
            TumblingRock y = Due.rock("turn 9,9;place 9 9 9;place 9 9 9;way 0 1;", 2);
            y.seed(1);
            y.drift(1);
            Due.is("where", y.told(7), 1);
            Due.is("two DRAWS", y.seed(0), (int) ((1103527590L * 1103515245L + 12345L) % (1L << 31)));
        });
        Due.edge("(it stays, if there are none: no DRAW)", () -> {
            TumblingRock x = Due.rock("turn 10,10;place 10 9 9;place 9 9 9;", 2);
            x.seed(1);
            Due.is("drift(1)", x.drift(1), 1);
            Due.is("where", x.told(7), 0);
            Due.is("one DRAW", x.seed(0), 1103527590);
        });
        Due.edge("with a KNOCK it stays; then STEP goes on.", () -> {
            // 80 draws 0 of 8, 9900 of 3 is 0, 20047 of 12 is 7
            TumblingRock x = Due.rock(WIDEST + "place 9 9 9;place 9 9 9;way 0 1;", 2);
            x.seed(80);
            x.drift(1);
            Due.is("SHIFT 0", x.turning(0, 1), 7);
            Due.is("where", x.told(7), 0);
            Due.is("STEP", x.told(6), 1);
            // 9 draws 0 of 8, 11155 of 3 is 1, 11119 of 12 is 7; left over by its N once knocked twice
            for (int k = 0; k < 2; k++) {
                x.seed(9);
                x.drift(1);
            }
            Due.is("SHIFT 1, 14 left over by 12", x.turning(1, 1), 2);
            Due.is("SHIFT 0 as it was", x.turning(0, 1), 7);
            Due.is("SHIFT 2 as it was", x.turning(2, 1), 0);
        });
    }

    private static void state(TumblingRock x, int where, int step, int light, int shift, int seed) {
        Due.is("where", x.told(7), where);
        Due.is("STEP", x.told(6), step);
        Due.is("LIGHT", x.told(8), light);
        Due.is("SHIFT", x.turning(0, 1), shift);
        Due.is("THE SEED", x.seed(seed), seed);
    }

    private static void images() {
        Due.edge("IMAGES 0, 1 keep SHIFTS, THE FARM, STEP, LIGHT, THE SEED.", () -> {
            TumblingRock x = Due.rock(BRIGHT, 3);
            x.keep(0);
            x.go(1);
            x.knock(0, 1);
            x.seed(MOST);
            x.keep(1);
            x.go(2);
            x.stay(7);
            x.seed(3);
            for (int round = 0; round < 2; round++) {
                Due.is("goBack(0)", x.goBack(0), 1);
                state(x, 0, 0, 0, 0, 0);
                Due.is("goBack(1)", x.goBack(1), 1);
                state(x, 1, 1, 1, 1, MOST);
                // what is so goes on, the IMAGE does not
                x.go(0);
                x.knock(0, 1);
                x.seed(5);
            }
            Due.is("keep(1) once more", x.keep(1), 1);
            x.goBack(0);
            x.goBack(1);
            state(x, 0, 2, 2, 0, 5);
        });
        Due.edge("IMAGE i becomes what is so: 1.", () -> {
            TumblingRock x = new TumblingRock();
            Due.is("of nothing", x.keep(0), 1);
            x.seed(8);
            Due.is("back to nothing", x.goBack(0), 1);
            Due.is("THE SEED", x.seed(0), 0);
            Due.is("the other was not kept", x.goBack(1), NOT);
            Due.feed(x, BRIGHT);
            Due.is("rock()", x.rock(), 3);
            Due.is("IMAGES are gone", x.goBack(0), NOT);
        });
        Due.edge("What is so becomes IMAGE i: 1.", () -> {
            TumblingRock x = Due.rock(BRIGHT, 3);
            x.keep(0);
            x.write(2);
            x.see(0, 0, false);
            Due.feed(x, "turn");
            x.goBack(0);
            Due.is("THE BOOK is no part of it", x.told(10), 1);
            Due.is("what is SEEN is no part of it", x.told(9), 1);
            Due.is("what FITS is no part of it", x.fits(NONE, 0), 0);
            Due.is("THE TEXT is no part of it", x.told(4), 4);
        });
    }
}
