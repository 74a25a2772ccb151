/** THE TEXT: for each sentence of the document that names a boundary of it a test of its own. First argument but one: the document. */
public final class TextEdgeTests {
    private static final int NONE = -1, OUTSIDE = -1000000002, FULL = -1000000004;
    private static final String TURN = "turn 0,0;", PLACE = "place 9 9 9;", PUSH = "push 0 0 0;";

    public static void main(String[] args) throws Exception {
        Due.watch("TextEdgeTests", 5);
        Due.document(args[1]);
        length();
        turns();
        places();
        ways();
        pushes();
        signs();
        faultPlaces();
        faultOne();
        faultTwo();
        faultsThreeAndFour();
        nothingTold();
        feeds();
        rocks();
        faultTold();
        Due.close("TextEdgeTests");
    }

    private static void whole(String text, int places) {
        Due.is("fault() of '" + text + "'", Due.rock(text, places).fault(), NONE);
    }

    private static String blanks(int n) {
        return " ".repeat(n);
    }

    /** Clauses of each kind up to their most, in an order in which each may stand. */
    private static String twelveWays() {
        StringBuilder s = new StringBuilder(PLACE.repeat(8));
        for (int q = 1; q < 8; q++) s.append("way 0 ").append(q).append(";");
        for (int q = 2; q < 7; q++) s.append("way ").append(q).append(" 1;");
        return s.toString();
    }

    private static void length() {
        String words = "THE ROCK is told in a text (400 bytes at most): clauses:";
        Due.edge(words, () -> whole(blanks(388) + PLACE, 1));
        Due.edge(words, () -> whole(PLACE + blanks(388), 1));
        Due.edge(words, () -> Due.fault(blanks(399) + ";", 1, 399));
        Due.edge(words, () -> Due.fault(blanks(389) + "place 9 9 9", 1, 400));
        Due.edge(words, () -> {
            TumblingRock x = new TumblingRock();
            Due.feed(x, blanks(389) + "place 9 9 9");
            Due.is("feed of a byte more than 400", x.feed(1, ';'), FULL);
            Due.is("rock() of the 400", x.rock(), -11);
        });
    }

    private static void turns() {
        Due.edge("(3 TURNINGS at most:", () -> {
            for (int n = 0; n <= 3; n++) Due.is(n + " turnings", Due.rock(TURN.repeat(n), 0).told(0), n);
            Due.fault(TURN.repeat(4), 3, 27);
        });
        Due.edge("N numbers V, 2 .. 12 of them,", () -> {
            for (int n = 2; n <= 12; n++) Due.is(n + " numbers", Due.rock("turn 1" + ",1".repeat(n - 1) + ";", 0).turning(0, 0), n);
            Due.fault("turn 1;", 1, 6);
            Due.fault("turn ;", 1, 5);
            Due.fault("turn 1" + ",1".repeat(12) + ";", 1, 28);
        });
        Due.edge("each 0 .. 18, less 9: its ROW)", () -> {
            TumblingRock x = Due.rock("turn 0,18,9,1,17,8,10,0,0,0,0,18;", 0);
            int[] row = {-9, 9, 0, -8, 8, -1, 1, -9, -9, -9, -9, 9};
            for (int k = 0; k < 12; k++) {
                Due.is("PART " + k, x.turning(0, 3), row[k]);
                x.knock(0, 1);
            }
            Due.fault("turn 19,0;", 2, 5);
            Due.fault("turn 0,19;", 2, 7);
            Due.fault("turn 0" + ",0".repeat(10) + ",19;", 2, 27);
            Due.fault("turn -1,0;", 1, 5);
        });
    }

    private static void places() {
        Due.edge("(8 PLACES at most:", () -> {
            for (int n = 0; n <= 8; n++) Due.is(n + " places", Due.rock(PLACE.repeat(n), n).told(1), n);
            Due.fault(PLACE.repeat(9), 3, 96);
        });
        Due.edge("it faces TURNING 0 by A, 1 by B, 2 by C, each 0 .. 18, less 9)", () -> {
            TumblingRock x = Due.rock("place 0 9 18;place 18 0 9;place 9 18 0;place 1 10 17;", 4);
            int[][] faces = {{-9, 0, 9}, {9, -9, 0}, {0, 9, -9}, {-8, 1, 8}};
            for (int p = 0; p < 4; p++) for (int i = 0; i < 3; i++) Due.is("place(" + p + ", " + i + ")", x.place(p, i), faces[p][i]);
            Due.fault("place 19 0 0;", 2, 6);
            Due.fault("place 0 19 0;", 2, 8);
            Due.fault("place 0 0 19;", 2, 10);
            Due.fault("place 0 0 -1;", 1, 10);
        });
        Due.edge("'place' A B C ';'", () -> {
            Due.fault("place ;", 1, 6);
            Due.fault("place 1;", 1, 7);
            Due.fault("place 1 2;", 1, 9);
            Due.fault("place 1 2 3 4;", 1, 12);
            Due.fault("place 1,2,3;", 1, 7);
        });
    }

    private static void ways() {
        Due.edge("(12 at most, between unlike PLACES told ahead, each two once, either way round)", () -> {
            Due.is("twelve ways", Due.rock(twelveWays(), 8).told(2), 12);
            Due.fault(twelveWays() + "way 3 4;", 3, 96 + 12 * 8);
        });
        Due.edge("between unlike PLACES told ahead", () -> {
            Due.is("the last two of eight", Due.rock(PLACE.repeat(8) + "way 7 6;", 8).place(7, 3), 1 << 6);
            Due.fault(PLACE.repeat(8) + "way 7 7;", 4, 102);
            Due.fault(PLACE.repeat(8) + "way 7 8;", 2, 102);
            Due.fault(PLACE.repeat(7) + "way 7 0;" + PLACE, 2, 88);
            Due.is("a place behind the way", Due.rock(PLACE.repeat(2) + "way 0 1;" + PLACE, 3).told(2), 1);
        });
        Due.edge("each two once, either way round", () -> {
            TumblingRock x = Due.rock(PLACE.repeat(3) + "way 0 1;way 2 1;", 3);
            int[] roads = {0b10, 0b101, 0b10};
            for (int p = 0; p < 3; p++) Due.is("ways of " + p, x.place(p, 3), roads[p]);
            Due.fault(PLACE.repeat(2) + "way 0 1;way 0 1;", 4, 38);
            Due.fault(PLACE.repeat(2) + "way 0 1;way 1 0;", 4, 38);
            Due.fault(PLACE.repeat(2) + "way 1 0;way 0 1;", 4, 38);
        });
        Due.edge("'way' P Q ';'", () -> {
            Due.fault(PLACE.repeat(2) + "way ;", 1, 28);
            Due.fault(PLACE.repeat(2) + "way 0;", 1, 29);
            Due.fault(PLACE.repeat(2) + "way 0 1 0;", 1, 32);
            Due.fault(PLACE.repeat(2) + "way 0,1;", 1, 29);
        });
    }

    private static void pushes() {
        Due.edge("(4 PUSHES at most:", () -> {
            for (int n = 0; n <= 4; n++) Due.is(n + " pushes", Due.rock(PUSH.repeat(n), 0).told(3), n);
            Due.fault(PUSH.repeat(5), 3, 44);
        });
        Due.edge("it shifts TURNING 0 by A, 1 by B, 2 by C, 0 .. 11 each).", () -> {
            String twelve = "turn 0" + ",0".repeat(11) + ";";
            TumblingRock x = Due.rock(twelve.repeat(3) + "push 11 0 0;push 0 11 0;push 0 0 11;push 1 2 3;", 0);
            int[][] shifts = {{11, 0, 0}, {11, 11, 0}, {11, 11, 11}, {0, 1, 2}};
            for (int k = 0; k < 4; k++) {
                x.push(k);
                for (int i = 0; i < 3; i++) Due.is("SHIFT " + i + " behind push(" + k + ")", x.turning(i, 1), shifts[k][i]);
            }
            Due.fault("push 12 0 0;", 2, 5);
            Due.fault("push 0 12 0;", 2, 7);
            Due.fault("push 0 0 12;", 2, 9);
        });
        Due.edge("'push' A B C ';'", () -> {
            Due.fault("push ;", 1, 5);
            Due.fault("push 1;", 1, 6);
            Due.fault("push 1 2;", 1, 8);
            Due.fault("push 1 2 3 4;", 1, 11);
        });
    }

    private static void signs() {
        Due.edge("NUMBERS have one to three figures", () -> {
            whole("turn 0,00,000,18,018;", 0);
            whole("place 9 09 009;", 1);
            Due.fault("turn 0,0000;", 2, 7);
            Due.fault("turn 0,0018;", 2, 7);
            Due.is("figures 0 to 9", Due.rock("place 12 03 9;place 4 5 6;place 7 8 10;", 3).place(0, 0), 3);
            Due.fault("turn /,1;", 1, 5);
            Due.fault("turn :,1;", 1, 5);
            Due.fault("turn 1/,1;", 1, 6);
            Due.fault("turn 1:,1;", 1, 6);
        });
        Due.edge("words are letters a .. z side by side", () -> {
            Due.fault("turna 0,0;", 1, 0);
            Due.fault("turnz 0,0;", 1, 0);
            for (String word : new String[] {"zturn", "xurn", "tur", "turm", "xlace", "plac", "placf", "xay", "wa", "waz", "xush", "pus", "pusi"}) {
                Due.fault(word + " 0,0;", 1, 0);
            }
            for (char other : new char[] {'`', '{', 'A', 'Z', '_', '0' - 1, 225}) Due.fault("turn" + other + " 0,0;", 1, 4);
            Due.fault("TURN 0,0;", 1, 0);
        });
        Due.edge("blanks (32) may stand anywhere but within words and NUMBERS", () -> {
            whole("   turn  00  ,  18  ;   place   9   9   9   ;  place 9 9 9 ;  way   0   1  ;  push  0  0  0  ;  ", 2);
            whole("turn0,18;place9 9 9;place9 9 9;way0 1;push0 0 0;", 2);
            Due.fault("tu rn 0,0;", 1, 0);
            Due.fault("turn 1 8,0;", 1, 7);
            Due.fault("push 1 1 1 1;", 1, 11);
            for (char other : new char[] {0, 9, 10, 13, 31, 33, 127, 160, 255}) {
                Due.fault("turn" + other + "0,0;", 1, 4);
                Due.fault(other + "turn 0,0;", 1, 0);
                Due.fault("turn 0,0;" + other, 1, 9);
            }
        });
        Due.edge("two words, two NUMBERS side by side need one.", () -> {
            Due.fault("turnplace 9 9 9;", 1, 0);
            Due.fault("place 12 3;", 1, 10);
            Due.fault("place 123 1 1;", 2, 6);
            whole("place 1 2 3;turn 1,2;", 1);
        });
    }

    private static void faultPlaces() {
        Due.edge("FAULTS, at the first byte that has one", () -> {
            Due.fault("turn 19;x", 2, 5);
            Due.fault(TURN.repeat(3) + "turn 99,99;x", 3, 27);
            Due.fault("place 9 9 9;way 0 0 0;", 4, 18);
            Due.fault("place 9 9 9;way 1 1;", 2, 16);
            Due.fault("place 99 99 99;", 2, 6);
            Due.fault("x y", 1, 0);
        });
        Due.edge("(the end at the text's length)", TextEdgeTests::cutTexts);
        Due.edge("of these the least:", () -> {
            // 1 and 3; 1 and 2; 2 and 4
            Due.fault(TURN.repeat(3) + "turning", 1, 27);
            Due.fault(PLACE.repeat(8) + "9999", 1, 96);
            Due.fault("push 1 1 1 9999;", 1, 11);
            Due.fault(PLACE + "way 0 0000;", 2, 18);
        });
    }

    /** Cut behind each byte, with and without blanks at the end: a word is at fault at its first letter, else the end is. */
    private static void cutTexts() {
        String text = "turn 1,2;place 3 4 5;place 6 7 8;way 0 1;push 1 2 3;";
        int clause = 0, places = 0;
        for (int end = 1; end <= text.length(); end++) {
            String cut = text.substring(0, end), word = cut.substring(clause);
            if (cut.endsWith(";")) {
                clause = end;
                if (word.startsWith("place")) places++;
                whole(cut, places);
                whole(cut + "   ", places);
                continue;
            }
            boolean inWord = !text.substring(clause).startsWith(word + " ") && word.matches("[a-z]+");
            Due.fault(cut, 1, inWord ? clause : end);
            Due.fault(cut + "  ", 1, inWord ? clause : end + 2);
        }
    }

    private static void faultOne() {
        Due.edge("1 it cannot stand there (a word that cannot: at its first letter;", () -> {
            Due.fault("  plac 9 9 9;", 1, 2);
            Due.fault("turn 0,0 push", 1, 9);
            Due.fault("turn turn 0,0;", 1, 5);
            Due.fault("push 0 0 way 0;", 1, 9);
            Due.fault(";", 1, 0);
            Due.fault(TURN + ";", 1, 9);
            Due.fault(",", 1, 0);
            Due.fault("0", 1, 0);
        });
        Due.edge("a thirteenth V: at its ','", () -> {
            String twelve = "turn 0" + ",0".repeat(11);
            whole(twelve + ";", 0);
            Due.fault(twelve + ",0;", 1, 28);
            Due.fault(twelve + "  ,0;", 1, 30);
            Due.fault(twelve + ",", 1, 28);
            Due.fault(twelve + ",0000;", 1, 28);
            Due.fault(twelve + " 0;", 1, 29);
        });
        Due.edge("an only V: at what is behind it)", () -> {
            Due.fault("turn 5;", 1, 6);
            Due.fault("turn 5   ;", 1, 9);
            Due.fault("turn 5 6,7;", 1, 7);
            Due.fault("turn 5place", 1, 6);
            Due.fault("turn 5", 1, 6);
            Due.fault("turn 5  ", 1, 8);
        });
    }

    private static void faultTwo() {
        Due.edge("2 a NUMBER of four figures or more,", () -> {
            Due.fault("turn 0000,0;", 2, 5);
            Due.fault("turn  0009", 2, 6);
            Due.fault("turn 4294967305,0;", 2, 5);
            Due.fault("turn 18446744073709551625,0;", 2, 5);
            Due.fault("place 9 9 " + "0".repeat(380) + ";", 2, 10);
            Due.fault("push 0 0000 0;", 2, 7);
            Due.fault(PLACE.repeat(2) + "way 0000 1;", 2, 28);
        });
        Due.edge("or out of its bounds;", () -> {
            Due.fault("turn 019,0;", 2, 5);
            Due.fault("turn 999,0;", 2, 5);
            Due.fault("place 999 0 0;", 2, 6);
            Due.fault("push 012 0 0;", 2, 5);
        });
        Due.edge("a PLACE that was not told yet (at its first).", () -> {
            Due.fault("way 0 1;", 2, 4);
            Due.fault(PLACE + "way 0 1;" + PLACE, 2, 18);
            Due.fault(PLACE + "way 1 0;" + PLACE, 2, 16);
            Due.fault(PLACE + "way 00 001;", 2, 19);
            Due.fault(PLACE.repeat(8) + "way 0 8;", 2, 102);
            Due.fault(PLACE.repeat(8) + "way 0 999;", 2, 102);
        });
    }

    private static void faultsThreeAndFour() {
        Due.edge("3 a fourth 'turn', a ninth 'place', a 13th 'way', a fifth 'push' (at its first letter).", () -> {
            Due.fault(TURN.repeat(3) + "  turn", 3, 29);
            Due.fault(PLACE.repeat(8) + "  place", 3, 98);
            Due.fault(twelveWays() + "  way", 3, 194);
            Due.fault(PUSH.repeat(4) + "  push", 3, 46);
            Due.fault(TURN.repeat(3) + "turn turn", 3, 27);
            whole(TURN.repeat(3) + twelveWays() + PUSH.repeat(4), 8);
        });
        Due.edge("4 Q like P, two again (at the Q).", () -> {
            Due.fault(PLACE + "way 0 0;", 4, 18);
            Due.fault(PLACE + "way 0   000;", 4, 20);
            Due.fault(PLACE + "way 0 0", 4, 18);
            Due.fault(PLACE.repeat(2) + "way 0 1;way 00  01;", 4, 40);
            Due.fault(PLACE.repeat(3) + "way 0 1;way 0 2;way 1 0x", 4, 58);
            whole(PLACE.repeat(3) + "way 0 1;way 0 2;way 1 2;", 3);
        });
    }

    private static void nothingTold() {
        Due.edge("An empty text (or one of blanks alone) has no FAULT: no TURNINGS, no PLACES.", () -> {
            for (int n : new int[] {0, 1, 8, 9, 400}) {
                TumblingRock x = Due.rock(TURN + PLACE.repeat(2) + "way 0 1;" + PUSH, 2);
                Due.feed(x, blanks(n));
                Due.is("rock() of " + n + " blanks", x.rock(), 0);
                Due.is("fault()", x.fault(), NONE);
                int[] want = {0, 0, 0, 0, 0, 1, 0, NONE, 0, 0, 0, 0};
                for (int w = 0; w < want.length; w++) Due.is("told(" + w + ")", x.told(w), want[w]);
            }
        });
    }

    private static void feeds() {
        Due.edge("The n lowest bytes (n 1 .. 8) of a long, the highest of these first, come behind THE TEXT: how many it has.", () -> {
            String text = "turn 7,11,10,18;place 1 2 17;";
            for (int n = 1; n <= 8; n++) {
                TumblingRock x = new TumblingRock();
                for (int from = 0; from < text.length(); from += n) {
                    int m = Math.min(n, text.length() - from);
                    long above = m < 8 ? -1L << 8 * m : 0L;
                    Due.is("feed(" + m + ")", x.feed(m, above | Due.packed(text.substring(from, from + m))), from + m);
                }
                Due.is("rock() of what came by " + n, x.rock(), 1);
                Due.is("N", x.turning(0, 0), 4);
                Due.is("its third face", x.place(0, 2), 8);
            }
        });
        Due.edge("how many it has. OUTSIDE, FULL (400).", () -> {
            for (int n = 1; n <= 8; n++) {
                TumblingRock x = new TumblingRock();
                Due.feed(x, blanks(400 - n + 1));
                Due.is("feed(" + n + ") that would be 401", x.feed(n, 0L), FULL);
                Due.is("as many as ahead", x.told(4), 401 - n);
                if (n > 1) Due.is("feed that makes it 400", x.feed(n - 1, Due.packed(blanks(8))), 400);
                Due.is("feed(1) at 400", x.feed(1, 32L), FULL);
                Due.is("feed(0) at 400", x.feed(0, 32L), OUTSIDE);
                Due.is("feed(9) at 400", x.feed(9, 32L), OUTSIDE);
                Due.is("rock() of what was there", x.rock(), 0);
                Due.is("room again", x.feed(8, 0L), 8);
            }
        });
    }

    private static void rocks() {
        Due.edge("THE TEXT (it is empty then, with a FAULT, too) becomes THE ROCK", () -> {
            TumblingRock x = new TumblingRock();
            Due.feed(x, "place 9 9 9");
            Due.is("rock() with a fault", x.rock(), -11);
            Due.is("told(4)", x.told(4), 0);
            Due.feed(x, ";");
            Due.is("the old text is gone", x.rock(), -11);
            Due.is("fault()", x.fault(), 0);
            Due.feed(x, PLACE);
            Due.is("rock()", x.rock(), 1);
            Due.is("told(4)", x.told(4), 0);
            Due.is("rock() again: of an empty text", x.rock(), 0);
            Due.feed(x, "place 9 9 9");
            Due.is("an old ';' is not read on", x.rock(), -11);
            Due.is("fault(): the end", x.fault(), 11);
        });
        Due.edge("becomes THE ROCK", TextEdgeTests::rockByRock);
        Due.edge("(SHIFTS 0, STEP 0, LIGHT 0; nothing SEEN, no BOOK; IMAGES are gone; THE SEED stays)", TextEdgeTests::anew);
        Due.edge("-10 less the number of its FAULT (all else is as it was)", () -> {
            String[] texts = {"x", "turn 19,0;", PUSH.repeat(5), PLACE + "way 0 0;"};
            for (int number = 1; number <= 4; number++) {
                TumblingRock x = busy();
                Due.feed(x, texts[number - 1]);
                Due.is("rock()", x.rock(), -10 - number);
                int[] want = {2, 2, 1, 1, 0, 6, 5, 1, 4, 2, 1, 0b01};
                for (int w = 0; w < want.length; w++) Due.is("told(" + w + ")", x.told(w), want[w]);
                Due.is("SHIFT 0", x.turning(0, 1), 1);
                Due.is("SHIFT 1", x.turning(1, 1), 2);
                Due.is("fits(NONE, 0)", x.fits(NONE, 0), 3);
                Due.is("THE SEED", x.seed(9), 77);
                Due.is("goBack(0)", x.goBack(0), 1);
                Due.is("STEP of the IMAGE", x.told(6), 4);
                Due.is("goBack(1)", x.goBack(1), -1000000003);
            }
        });
    }

    /** Nothing of an earlier ROCK, nor of a text with a FAULT, is left in a later one. */
    private static void rockByRock() {
        TumblingRock x = new TumblingRock();
        String most = TURN.repeat(3) + twelveWays() + PUSH.repeat(4);
        for (int round = 0; round < 6; round++) {
            Due.feed(x, most + (round % 2 == 0 ? "" : "x"));
            Due.is("rock() of the most", x.rock(), round % 2 == 0 ? 8 : -11);
            int[] want = {3, 8, 12, 4, 0, 2};
            for (int w = 0; w < want.length; w++) Due.is("the most: told(" + w + ")", x.told(w), want[w]);
            if (round < 3) continue;
            Due.feed(x, PLACE.repeat(2) + PUSH);
            Due.is("rock() of less", x.rock(), 2);
            int[] less = {0, 2, 0, 1, 0, 1};
            for (int w = 0; w < less.length; w++) Due.is("less: told(" + w + ")", x.told(w), less[w]);
            for (int p = 0; p < 2; p++) Due.is("less: ways of " + p, x.place(p, 3), 0);
            Due.feed(x, most);
            Due.is("rock() of the most again", x.rock(), 8);
        }
    }

    /** PLACE 0 is LIT at even STEPS, PLACE 1 at odd ones; behind the knock the other way round. */
    private static TumblingRock busy() {
        TumblingRock x = Due.rock("turn 10,8;turn 9,9,9;place 10 9 9;place 8 9 9;way 0 1;push 1 1 1;", 2);
        x.see(0, 0, true);
        x.see(1, 0, false);
        x.write(1);
        x.seed(76);
        Due.is("go(1), lit at 1", x.go(1), 1);
        Due.is("go(0), lit at 2", x.go(0), 1);
        Due.is("go(1), lit at 3", x.go(1), 1);
        Due.is("stay(1), dark at 4", x.stay(1), 0);
        x.keep(0);
        x.stay(1);
        x.knock(0, 1);
        x.knock(1, 2);
        x.seed(77);
        return x;
    }

    private static void anew() {
        TumblingRock x = busy();
        Due.feed(x, "turn 10,8;turn 9,9;place 10 9 9;place 8 9 9;push 2 0 0;");
        Due.is("rock()", x.rock(), 2);
        int[] want = {2, 2, 0, 1, 0, 2, 0, 0, 0, 0, 0, 0b01};
        for (int w = 0; w < want.length; w++) Due.is("told(" + w + ")", x.told(w), want[w]);
        for (int i = 0; i < 2; i++) Due.is("SHIFT " + i, x.turning(i, 1), 0);
        Due.is("nothing SEEN: all FIT", x.fits(NONE, 0), 4);
        Due.is("no BOOK", x.judge(1), 0);
        Due.is("no way as of old", x.place(0, 3), 0);
        for (int i = 0; i < 2; i++) Due.is("goBack(" + i + ")", x.goBack(i), -1000000003);
        Due.is("THE SEED stays", x.seed(0), 77);
    }

    private static void faultTold() {
        Due.edge("The place (from 0 on) of the byte that has the FAULT of the latest rock(); NONE.", () -> {
            TumblingRock x = new TumblingRock();
            Due.is("ahead of any rock()", x.fault(), NONE);
            Due.feed(x, "x");
            Due.is("fed alone", x.fault(), NONE);
            x.rock();
            Due.is("the first byte", x.fault(), 0);
            Due.feed(x, PLACE);
            Due.is("till the next rock()", x.fault(), 0);
            x.rock();
            Due.is("behind one without", x.fault(), NONE);
            Due.feed(x, blanks(393) + "place 9");
            x.rock();
            Due.is("the end of 400", x.fault(), 400);
            Due.feed(x, blanks(399) + "x");
            x.rock();
            Due.is("the last byte of 400", x.fault(), 399);
            x.rock();
            Due.is("behind an empty text", x.fault(), NONE);
        });
    }
}
