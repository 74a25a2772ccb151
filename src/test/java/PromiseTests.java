/** Each promise by its number, with answers counted by hand from the document. */
public final class PromiseTests {
    private static final int NONE = -1, UNKNOWN = -1000000001, OUTSIDE = -1000000002, NOT = -1000000003, FULL = -1000000004;
    private static final int LEAST = Integer.MIN_VALUE, MOST = Integer.MAX_VALUE;

    /**
     * TURNING 0 (4): 1 -1 -1 -1; TURNING 1 (3): 1 -1 1; PERIOD 12.
     * PLACE 0 is LIT at 0 4 8; PLACE 1 but at 1 4 7 10; PLACE 2 (both together) at 0 8; PLACE 3 but at 0 4 8.
     */
    private static final String ROCK = "turn 10,8,8,8;turn 10,8,10;place 10 9 9;place 9 10 9;place 10 10 9;place 8 9 9;"
        + "way 0 1;way 1 2;push 1 0 0;push 0 1 0;push 3 1 7;push 4 3 5;";

    public static void main(String[] args) {
        Due.watch("PromiseTests", 5);
        newObject();
        feed();
        rock();
        faultOne();
        faultsTwoToFour();
        told();
        turning();
        place();
        height();
        stay();
        go();
        knock();
        push();
        drift();
        next();
        share();
        stand();
        way();
        mail();
        cross();
        store();
        see();
        fits();
        look();
        mend();
        write();
        tear();
        judge();
        seed();
        images();
        Due.close("PromiseTests");
    }

    private static TumblingRock rockAsTold() {
        return Due.rock(ROCK, 4);
    }

    private static void newObject() {
        TumblingRock x = new TumblingRock();
        int[] want = {0, 0, 0, 0, 0, 1, 0, NONE, 0, 0, 0, 0};
        for (int w = 0; w < want.length; w++) Due.is("new: told(" + w + ")", x.told(w), want[w]);
        Due.is("new: fault()", x.fault(), NONE);
        Due.is("new: turning(0, 0)", x.turning(0, 0), UNKNOWN);
        Due.is("new: place(0, 0)", x.place(0, 0), UNKNOWN);
        Due.is("new: store()", x.store(), NONE);
        Due.is("new: fits(NONE, 9)", x.fits(NONE, 9), 1);
        Due.is("new: look(0)", x.look(0), NONE);
        Due.is("new: stand(11, 11, 11, 5)", x.stand(11, 11, 11, 5), 5);
        Due.is("new: mend(3, 4, 5, NONE)", x.mend(3, 4, 5, NONE), 0);
        Due.is("new: judge(0)", x.judge(0), NONE);
        Due.is("new: judge(1)", x.judge(1), 0);
        Due.is("new: goBack(0)", x.goBack(0), NOT);
        Due.is("new: seed(5)", x.seed(5), 0);
        Due.is("new: tear()", x.tear(), 0);
        Due.is("new: push(0)", x.push(0), UNKNOWN);
    }

    private static void feed() {
        TumblingRock x = new TumblingRock();
        for (int n : new int[] {0, 9, -1, LEAST, MOST}) Due.is("feed(" + n + ", 0)", x.feed(n, 0L), OUTSIDE);
        // "turn 9,0;" with bytes above the n lowest, that are not looked at
        Due.is("feed of turn", x.feed(4, Due.packed("XYZ!turn")), 4);
        Due.is("feed of ' 9,0;'", x.feed(5, Due.packed("zzz 9,0;")), 9);
        Due.is("rock() of 'turn 9,0;'", x.rock(), 0);
        Due.is("told(0)", x.told(0), 1);
        Due.is("turning(0, 3)", x.turning(0, 3), 0);
        for (int k = 1; k <= 49; k++) Due.is("feed " + k, x.feed(8, -1L), 8 * k);
        Due.is("feed of one byte at 392", x.feed(1, -1L), 393);
        Due.is("feed of eight at 393", x.feed(8, -1L), FULL);
        Due.is("told(4)", x.told(4), 393);
        Due.is("feed of seven at 393", x.feed(7, -1L), 400);
        Due.is("feed of one at 400", x.feed(1, 32L), FULL);
        Due.is("feed(0, 0) at 400", x.feed(0, 0L), OUTSIDE);
        Due.is("rock() of bytes 255", x.rock(), -11);
        Due.is("fault()", x.fault(), 0);
    }

    private static void rock() {
        TumblingRock x = rockAsTold();
        x.stay(3);
        x.knock(0, 1);
        x.see(0, 0, true);
        x.write(0);
        x.keep(0);
        x.seed(77);
        Due.feed(x, "turn 1");
        Due.is("rock() with a fault", x.rock(), -11);
        Due.is("fault()", x.fault(), 6);
        int[] kept = {2, 4, 2, 4, 0, 12, 3, 0, 0, 1, 1};
        for (int w = 0; w < kept.length; w++) Due.is("behind a fault: told(" + w + ")", x.told(w), kept[w]);
        Due.is("behind a fault: SHIFT", x.turning(0, 1), 1);
        Due.is("behind a fault: fits(NONE, 0)", x.fits(NONE, 0), 3);
        Due.is("behind a fault: goBack(0)", x.goBack(0), 1);
        x.seed(78);
        Due.feed(x, "turn 1,2,3;place 0 0 0;place 18 18 18;");
        Due.is("rock()", x.rock(), 2);
        Due.is("fault() of the latest", x.fault(), NONE);
        int[] anew = {1, 2, 0, 0, 0, 3, 0, 0, 0, 0, 0};
        for (int w = 0; w < anew.length; w++) Due.is("anew: told(" + w + ")", x.told(w), anew[w]);
        Due.is("anew: SHIFT", x.turning(0, 1), 0);
        Due.is("anew: ways of 0", x.place(0, 3), 0);
        Due.is("anew: fits(NONE, 0)", x.fits(NONE, 0), 3);
        Due.is("anew: goBack(0)", x.goBack(0), NOT);
        Due.is("anew: the seed stays", x.seed(0), 78);
        Due.is("rock() of no text", x.rock(), 0);
        Due.is("no rock: told(0)", x.told(0), 0);
        Due.is("no rock: told(7)", x.told(7), NONE);
        Due.is("no rock: place(0, 0)", x.place(0, 0), UNKNOWN);
        threeRocks();
        Due.rock("     ", 0);
        Due.rock("place9 9 9;place   009 018 0;way0 1;", 2);
        Due.rock("  turn  1 , 2 ;  place 1  2   3 ; push 0 0 0 ; ", 1);
        Due.rock("turn 1,2,3,4,5,6,7,8,9,10,11,12;turn 0,18;turn 018,000;", 0);
    }

    /** What an earlier rock left must not be seen in a later one, nor an earlier text behind the end of a later. */
    private static void threeRocks() {
        TumblingRock x = rockAsTold();
        x.knock(1, 1);
        x.go(1);
        x.stay(8);
        Due.feed(x, "turn 1,2,3,4,5,6,7;turn 1,2,3;turn 1,2;place 1 1 1;");
        Due.is("second rock()", x.rock(), 1);
        int[] second = {3, 1, 0, 0, 0, 42, 0, 0, 0, 0, 0, 1};
        for (int w = 0; w < second.length; w++) Due.is("second rock: told(" + w + ")", x.told(w), second[w]);
        for (int i = 0; i < 3; i++) Due.is("second rock: SHIFT", x.turning(i, 1), 0);
        Due.feed(x, "place 1 1 1;place 1 1 1;place 1 1 1;");
        Due.is("third rock()", x.rock(), 3);
        int[] third = {0, 3, 0, 0, 0, 1, 0, 0, 0, 0, 0, 0};
        for (int w = 0; w < third.length; w++) Due.is("third rock: told(" + w + ")", x.told(w), third[w]);
        for (int p = 0; p < 3; p++) Due.is("third rock: ways", x.place(p, 3), 0);
        Due.feed(x, "place 1 1 1");
        Due.is("rock() with an old ';' behind its end", x.rock(), -11);
        Due.is("fault()", x.fault(), 11);
    }

    private static void fault(String text, int number, int at) {
        Due.fault(text, number, at);
    }

    private static void faultOne() {
        fault("x", 1, 0);
        fault("  turns 1,2;", 1, 2);
        fault("tur", 1, 0);
        fault("xurn 1,2;", 1, 0);
        fault("turm 1,2;", 1, 0);
        fault("xlace 1 1 1;", 1, 0);
        fault("puss 1 1 1;", 1, 0);
        fault("Turn 1,2;", 1, 0);
        fault("turN 1,2;", 1, 0);
        fault("turnX 1,2;", 1, 4);
        fault("turn", 1, 4);
        fault("turn  ", 1, 6);
        fault("turn turn 1,2;", 1, 5);
        fault("turn 5;", 1, 6);
        fault("turn 5 ;", 1, 7);
        fault("turn 5", 1, 6);
        fault("turn 5,", 1, 7);
        fault("turn 5,;", 1, 7);
        fault("turn 5 6;", 1, 7);
        fault("turn 5,6", 1, 8);
        fault("turn 5,6 ", 1, 9);
        fault("turn 5,6,;", 1, 9);
        fault("turn ,5;", 1, 5);
        fault("turn 1,2,3,4,5,6,7,8,9,10,11,12,13;", 1, 31);
        fault("turn 1,2,3,4,5,6,7,8,9,10,11,12 ,9999;", 1, 32);
        fault("turn 1,2;;", 1, 9);
        fault(";", 1, 0);
        fault("place 1 2;", 1, 9);
        fault("place 1 2 3 4;", 1, 12);
        fault("place 1 2 3 9999;", 1, 12);
        fault("place 1,2 3;", 1, 7);
        fault("place 1 2 3way 0 1;", 1, 11);
        fault("place 1 2 3", 1, 11);
        fault("place 1 -2 3;", 1, 8);
        fault("place 9 9 9;way 0;", 1, 17);
        fault("place 9 9 9;way ;", 1, 16);
        fault("place 9 9 9;place 9 9 9;way 0 1 1;", 1, 32);
        fault("place 9 9 9;place 9 9 9;way 0-1;", 1, 29);
        fault("push 1 1 1", 1, 10);
        fault("push 1 1;", 1, 8);
        fault("placeway", 1, 0);
        fault("12", 1, 0);
        fault("1234", 1, 0);
        fault("place 1 2\t3;", 1, 9);
        fault("place 1 2 3;" + (char) 255, 1, 12);
        fault("place 1 2 3;" + (char) 0, 1, 12);
    }

    private static void faultsTwoToFour() {
        fault("turn 19,1;", 2, 5);
        fault("turn 1,1000;", 2, 7);
        fault("turn 1,0001;", 2, 7);
        fault("turn 1, 99999999999999999999;", 2, 8);
        fault("turn 4294967296,1;", 2, 5);
        fault("turn 19", 2, 5);
        fault("place 1 19 x", 2, 8);
        fault("place 1 1 019;", 2, 10);
        fault("push 12 0 0;", 2, 5);
        fault("push 0 0 012;", 2, 9);
        fault("push 0 0 0011;", 2, 9);
        fault("way 0 0;", 2, 4);
        fault("place 1 1 1;way 0 1;place 1 1 1;", 2, 18);
        fault("place 1 1 1;way 1 1;", 2, 16);
        fault("place 1 1 1;way 0 0000;", 2, 18);
        fault("turn 1,2;turn 1,2;turn 1,2; turn", 3, 28);
        fault("turn 1,2;turn 1,2;turn 1,2;turns", 1, 27);
        StringBuilder places = new StringBuilder();
        for (int p = 0; p < 8; p++) places.append("place 1 1 1;");
        Due.rock(places.toString(), 8);
        fault(places + "place 99", 3, 96);
        fault(places + "way 0 8;", 2, 102);
        fault("push 1 1 1;push 1 1 1;push 1 1 1;push 1 1 1;push;", 3, 44);
        StringBuilder ways = new StringBuilder(places);
        for (int q = 1; q < 8; q++) ways.append("way 0 ").append(q).append(";");
        for (int q = 2; q < 7; q++) ways.append("way 1 ").append(q).append(";");
        Due.is("twelve ways", Due.rock(ways.toString(), 8).told(2), 12);
        fault(ways + "way 6 7;", 3, 96 + 12 * 8);
        fault(ways + "wax 6 7;", 1, 96 + 12 * 8);
        fault("place 1 1 1;way 0 0;", 4, 18);
        fault("place 1 1 1;way 0  00;", 4, 19);
        fault("place 1 1 1;place 1 1 1;way 0 1;way 0 1;", 4, 38);
        fault("place 1 1 1;place 1 1 1;way 0 1;way 1 0", 4, 38);
    }

    private static void told() {
        TumblingRock x = rockAsTold();
        Due.is("told(4) with a text", x.feed(3, 0L), 3);
        x.go(1);
        x.stay(1);
        x.see(0, 0, true);
        x.write(1);
        x.write(2);
        int[] want = {2, 4, 2, 4, 3, 12, 2, 1, 1, 1, 2, 0b1010};
        for (int w = 0; w < want.length; w++) Due.is("told(" + w + ")", x.told(w), want[w]);
        for (int w : new int[] {-1, 12, LEAST, MOST}) Due.is("told(" + w + ")", x.told(w), OUTSIDE);
        Due.is("where, of a single place", Due.rock("place 9 9 9;", 1).told(7), 0);
        Due.is("PERIOD of 2, 4 and 8", Due.rock("turn 0,0;turn 0,0,0,0;turn 0,0,0,0,0,0,0,0;", 0).told(5), 8);
        Due.is("PERIOD of 9, 10 and 11", Due.rock("turn 1,1,1,1,1,1,1,1,1;turn 1,1,1,1,1,1,1,1,1,1;"
            + "turn 1,1,1,1,1,1,1,1,1,1,1;", 0).told(5), 990);
        Due.is("PERIOD of 12 twice", Due.rock("turn 1,1,1,1,1,1,1,1,1,1,1,1;turn 1,1,1,1,1,1,1,1,1,1,1,1;", 0).told(5), 12);
    }

    private static void turning() {
        TumblingRock x = rockAsTold();
        x.stay(5);
        x.knock(1, 2);
        int[][] want = {{4, 0, 1, -1}, {3, 2, 1, -1}};
        for (int i = 0; i < 2; i++) {
            for (int w = 0; w < 4; w++) Due.is("turning(" + i + ", " + w + ")", x.turning(i, w), want[i][w]);
        }
        Due.is("turning(2, 0)", x.turning(2, 0), UNKNOWN);
        Due.is("turning(-1, 9)", x.turning(-1, 9), UNKNOWN);
        Due.is("turning(MOST, 0)", x.turning(MOST, 0), UNKNOWN);
        Due.is("turning(0, 4)", x.turning(0, 4), OUTSIDE);
        Due.is("turning(0, -1)", x.turning(0, -1), OUTSIDE);
    }

    private static void place() {
        TumblingRock x = rockAsTold();
        int[][] want = {{1, 0, 0, 0b10, 3, 3}, {0, 1, 0, 0b101, 1, 8}, {1, 1, 0, 0b10, 7, 2}, {-1, 0, 0, 0, 1, 9}};
        for (int p = 0; p < 4; p++) {
            for (int w = 0; w < 6; w++) Due.is("place(" + p + ", " + w + ")", x.place(p, w), want[p][w]);
        }
        Due.is("place(4, 0)", x.place(4, 0), UNKNOWN);
        Due.is("place(-1, 6)", x.place(-1, 6), UNKNOWN);
        Due.is("place(LEAST, 0)", x.place(LEAST, 0), UNKNOWN);
        Due.is("place(0, 6)", x.place(0, 6), OUTSIDE);
        Due.is("place(0, -1)", x.place(0, -1), OUTSIDE);
        // the dark at the end of a period goes on in the next; a knock turns it, but leaves it as long
        TumblingRock y = Due.rock("turn 0,0,18,0,0,0;place 18 0 18;place 9 9 9;place 0 0 0;", 3);
        Due.is("DARK round the end", y.place(0, 4), 5);
        y.knock(0, 4);
        Due.is("DARK behind a knock", y.place(0, 4), 5);
        Due.is("faces a turning that there is not", y.place(0, 2), 9);
        Due.is("never lit: DARK", y.place(1, 4), 6);
        Due.is("never lit: LIT steps", y.place(1, 5), 0);
        Due.is("LIT five of six", y.place(2, 5), 5);
        TumblingRock z = Due.rock("turn 18,18,18;place 18 9 9;", 1);
        Due.is("always lit: DARK", z.place(0, 4), 0);
        Due.is("always lit: LIT steps", z.place(0, 5), 3);
    }

    private static void height() {
        TumblingRock x = rockAsTold();
        int[] want = {2, -2, 0, 0, 0, 0, 0, -2, 2, 0, -2, 0, 2};
        for (int t = 0; t < want.length; t++) Due.is("height(2, " + t + ")", x.height(2, t), want[t]);
        Due.is("height(2, 999999)", x.height(2, 999999), 0);
        x.knock(1, 1);
        Due.is("height(2, 0) behind a knock", x.height(2, 0), 0);
        Due.is("height(2, 1000000)", x.height(2, 1000000), OUTSIDE);
        Due.is("height(2, -1)", x.height(2, -1), OUTSIDE);
        Due.is("height(4, -1)", x.height(4, -1), UNKNOWN);
        Due.is("height(-1, 0)", x.height(-1, 0), UNKNOWN);
        TumblingRock y = Due.rock("turn 18,0;turn 18,0;turn 18,0;place 18 18 18;place 0 0 0;place 18 0 18;", 3);
        Due.is("highest", y.height(0, 0), 243);
        Due.is("lowest", y.height(1, 0), -243);
        Due.is("all three", y.height(2, 1), -81);
    }

    private static void stay() {
        TumblingRock x = rockAsTold();
        Due.is("stay(3)", x.stay(3), 0);
        Due.is("stay(1)", x.stay(1), 1);
        Due.is("stay(8)", x.stay(8), 2);
        Due.is("LIGHT", x.told(8), 3);
        Due.is("stay(999)", x.stay(999), 249);
        Due.is("STEP", x.told(6), 1011);
        Due.is("LIGHT", x.told(8), 252);
        Due.is("where", x.told(7), 0);
        for (int n : new int[] {0, 1000, -1, LEAST, MOST}) Due.is("stay(" + n + ")", x.stay(n), OUTSIDE);
        Due.is("STEP as it was", x.told(6), 1011);
        TumblingRock y = Due.rock("turn 1,2;", 0);
        Due.is("stay(1) without places", y.stay(1), NOT);
        Due.is("stay(0) without places", y.stay(0), OUTSIDE);
        Due.is("STEP without places", y.told(6), 0);
    }

    private static void go() {
        TumblingRock x = rockAsTold();
        Due.is("go(0): no way to where it is", x.go(0), NOT);
        Due.is("go(2): no way", x.go(2), NOT);
        Due.is("go(3): no way", x.go(3), NOT);
        Due.is("go(4)", x.go(4), UNKNOWN);
        Due.is("go(-1)", x.go(-1), UNKNOWN);
        Due.is("go(32)", x.go(32), UNKNOWN);
        Due.is("STEP as it was", x.told(6), 0);
        Due.is("go(1), dark at 1", x.go(1), 0);
        Due.is("go(0), dark at 2", x.go(0), 0);
        Due.is("go(1), lit at 3", x.go(1), 1);
        Due.is("go(0), lit at 4", x.go(0), 1);
        Due.is("where", x.told(7), 0);
        Due.is("STEP", x.told(6), 4);
        Due.is("LIGHT", x.told(8), 2);
    }

    private static void knock() {
        TumblingRock x = rockAsTold();
        Due.is("knock(0, 3)", x.knock(0, 3), 3);
        Due.is("knock(0, 2)", x.knock(0, 2), 1);
        Due.is("knock(1, 11)", x.knock(1, 11), 2);
        Due.is("knock(1, 0)", x.knock(1, 0), 2);
        Due.is("SHIFT 0", x.turning(0, 1), 1);
        Due.is("STEP as it was", x.told(6), 0);
        Due.is("knock(2, 99)", x.knock(2, 99), UNKNOWN);
        Due.is("knock(-1, 0)", x.knock(-1, 0), UNKNOWN);
        Due.is("knock(0, 12)", x.knock(0, 12), OUTSIDE);
        Due.is("knock(0, -1)", x.knock(0, -1), OUTSIDE);
        Due.is("SHIFT 0 as it was", x.turning(0, 1), 1);
        TumblingRock y = Due.rock("turn 1,2;turn 1,2,3;turn 1,2,3,4;", 0);
        Due.is("knock(2, 7)", y.knock(2, 7), 3);
        Due.is("SHIFT 0", y.turning(0, 1), 0);
        Due.is("SHIFT 1", y.turning(1, 1), 0);
        Due.is("knock(1, 1)", y.knock(1, 1), 1);
        Due.is("SHIFT 0", y.turning(0, 1), 0);
        Due.is("SHIFT 2", y.turning(2, 1), 3);
        Due.is("knock(0, 1)", y.knock(0, 1), 1);
        Due.is("SHIFT 1", y.turning(1, 1), 1);
        Due.is("SHIFT 2", y.turning(2, 1), 3);
    }

    private static void push() {
        TumblingRock x = rockAsTold();
        Due.is("push(0)", x.push(0), 1);
        Due.is("push(2)", x.push(2), 2);
        Due.is("push(3), each by its N", x.push(3), 0);
        Due.is("SHIFT 0", x.turning(0, 1), 0);
        Due.is("SHIFT 1", x.turning(1, 1), 1);
        Due.is("push(4)", x.push(4), UNKNOWN);
        Due.is("push(-1)", x.push(-1), UNKNOWN);
        TumblingRock y = Due.rock("turn 1,2;turn 1,2,3;turn 1,2,3,4;push 11 11 11;", 0);
        Due.is("push(0) of three", y.push(0), 3);
        Due.is("SHIFT 0", y.turning(0, 1), 1);
        Due.is("SHIFT 1", y.turning(1, 1), 2);
        Due.is("SHIFT 2", y.turning(2, 1), 3);
        Due.is("push(0) without turnings", Due.rock("push 1 1 1;", 0).push(0), 0);
    }

    private static void drift() {
        TumblingRock x = rockAsTold();
        x.seed(1);
        // draws 16838 5758 | 10113 17515 | 31051 5627 | 23010 7419 | 16212 4086: to 1, 2, 1, 2, 1
        Due.is("drift(2)", x.drift(2), 0);
        Due.is("where", x.told(7), 2);
        Due.is("drift(3)", x.drift(3), 2);
        Due.is("where", x.told(7), 1);
        Due.is("STEP", x.told(6), 5);
        Due.is("LIGHT", x.told(8), 2);
        Due.is("SHIFT 0", x.turning(0, 1), 0);
        // the first draw of seed 0 is 0, a knock: then 21468 of 2 is 0, 9988 of 4 is 0; 22117 of 8 is 5, to 1
        TumblingRock y = rockAsTold();
        Due.is("drift(1) with a knock", y.drift(1), 0);
        Due.is("it stays", y.told(7), 0);
        Due.is("STEP goes on", y.told(6), 1);
        Due.is("three draws", y.seed(0), 654583775);
        // seed 80 draws 3576 9900 20047: 0 of 8 (a knock), 0 of 2 TURNINGS, 3 of its 4: PLACE 0 is lit at 1 then
        TumblingRock v = rockAsTold();
        v.seed(80);
        Due.is("drift(1) with a knock that shifts", v.drift(1), 1);
        Due.is("SHIFT 0", v.turning(0, 1), 3);
        Due.is("SHIFT 1", v.turning(1, 1), 0);
        Due.is("it stays", v.told(7), 0);
        Due.is("three draws", v.seed(9), 1313808495);
        // seed 9 draws 20472 11155 11119: 0 of 8, 1 of 2 TURNINGS, 1 of its 3
        v.drift(1);
        Due.is("SHIFT 0", v.turning(0, 1), 3);
        Due.is("SHIFT 1", v.turning(1, 1), 1);
        // a farm without ways stays without a draw
        TumblingRock z = Due.rock("turn 18,18;place 18 9 9;", 1);
        z.seed(1);
        Due.is("drift(1) without ways", z.drift(1), 1);
        Due.is("one draw", z.seed(0), 1103527590);
        for (int n : new int[] {0, 100, -1, LEAST, MOST}) Due.is("drift(" + n + ")", z.drift(n), OUTSIDE);
        Due.is("without turnings", Due.rock("place 9 9 9;", 1).drift(1), NOT);
        Due.is("without places", Due.rock("turn 1,2;", 0).drift(99), NOT);
        Due.is("outside comes first", Due.rock("turn 1,2;", 0).drift(100), OUTSIDE);
    }

    private static void next() {
        TumblingRock x = rockAsTold();
        int[][] want = {{0, 0, 0, 1}, {0, 1, 3, 1}, {1, 0, 0, 1}, {1, 1, 1, 2}, {1, 3, 0, 1}, {3, 0, 1, 3}, {3, 6, 0, 2}, {2, 1, 7, 1}, {2, 9, 3, 1}};
        for (int[] w : want) {
            Due.is("next(" + w[0] + ", " + w[1] + ", 0)", x.next(w[0], w[1], 0), w[2]);
            Due.is("next(" + w[0] + ", " + w[1] + ", 1)", x.next(w[0], w[1], 1), w[3]);
        }
        Due.is("next(0, 999999, 0)", x.next(0, 999999, 0), 1);
        TumblingRock t = Due.rock("turn 9,9;turn 9,9,9;turn 9,9,10,9,9;place 9 9 10;", 1);
        Due.is("the third turning: till", t.next(0, 3, 0), 4);
        Due.is("the third turning: steps", t.next(0, 3, 1), 1);
        Due.is("the third turning: DARK", t.place(0, 4), 4);
        TumblingRock y = Due.rock("turn 18,18,18;place 18 9 9;place 9 9 9;", 2);
        Due.is("always: till", y.next(0, 7, 0), 0);
        Due.is("always: PERIOD", y.next(0, 7, 1), 3);
        Due.is("never: till", y.next(1, 7, 0), NONE);
        Due.is("never: steps", y.next(1, 7, 1), NONE);
        Due.is("next(2, -1, 9)", y.next(2, -1, 9), UNKNOWN);
        Due.is("next(-1, 0, 0)", y.next(-1, 0, 0), UNKNOWN);
        Due.is("next(1, -1, 0)", y.next(1, -1, 0), OUTSIDE);
        Due.is("next(0, 1000000, 0)", y.next(0, 1000000, 0), OUTSIDE);
        Due.is("next(0, 0, 2)", y.next(0, 0, 2), OUTSIDE);
        Due.is("next(0, 0, -1)", y.next(0, 0, -1), OUTSIDE);
    }

    private static void share() {
        TumblingRock x = rockAsTold();
        int[][] want = {{1, 4}, {2, 3}, {1, 6}, {3, 4}};
        for (int p = 0; p < 4; p++) {
            for (int part = 0; part < 2; part++) Due.is("share(" + p + ", " + part + ")", x.share(p, part), want[p][part]);
        }
        Due.is("share(0, 2)", x.share(0, 2), OUTSIDE);
        Due.is("share(0, -1)", x.share(0, -1), OUTSIDE);
        Due.is("share(4, 2)", x.share(4, 2), UNKNOWN);
        Due.is("share(-1, 0)", x.share(-1, 0), UNKNOWN);
        TumblingRock y = Due.rock("turn 18,18,18;place 18 9 9;place 9 9 9;", 2);
        Due.is("all: above", y.share(0, 0), 1);
        Due.is("all: below", y.share(0, 1), 1);
        Due.is("none: above", y.share(1, 0), 0);
        Due.is("none: below", y.share(1, 1), 1);
    }

    private static void stand() {
        TumblingRock x = rockAsTold();
        Due.is("stand(2, 1, 11, 0)", x.stand(2, 1, 11, 0), 10);
        Due.is("stand(2, 1, 0, 10)", x.stand(2, 1, 0, 10), 10);
        Due.is("stand(2, 1, 0, 11)", x.stand(2, 1, 0, 11), 22);
        Due.is("stand(0, 0, 0, 0)", x.stand(0, 0, 0, 0), 0);
        Due.is("stand(4, 0, 0, 0)", x.stand(4, 0, 0, 0), NONE);
        Due.is("stand(0, 3, 0, 0)", x.stand(0, 3, 0, 0), NONE);
        Due.is("stand(3, 0, 0, 999999)", x.stand(3, 0, 0, 999999), 999999);
        Due.is("stand(2, 0, 0, 999999)", x.stand(2, 0, 0, 999999), 1000002);
        x.knock(0, 2);
        Due.is("stand(2, 1, 0, 0) behind a knock", x.stand(2, 1, 0, 0), 4);
        int[][] outside = {{12, 0, 0, 0}, {0, 12, 0, 0}, {0, 0, 12, 0}, {-1, 0, 0, 0}, {0, -1, 0, 0}, {0, 0, -1, 0}, {0, 0, 0, -1}, {0, 0, 0, 1000000}};
        for (int[] o : outside) Due.is("stand outside", x.stand(o[0], o[1], o[2], o[3]), OUTSIDE);
        // two of four: shifts that are odd to one another never meet
        TumblingRock y = Due.rock("turn 1,2;turn 1,2,3,4;", 0);
        Due.is("stand(0, 1, 0, 0)", y.stand(0, 1, 0, 0), NONE);
        Due.is("stand(1, 3, 0, 0)", y.stand(1, 3, 0, 0), 3);
    }

    private static void way() {
        TumblingRock x = rockAsTold();
        int[] want = {0, 0, 1, 1};
        Due.is("way(0, 0, 3, NONE)", x.way(0, 0, 3, NONE), 2);
        for (int i = 0; i <= 3; i++) Due.is("way(0, 0, 3, " + i + ")", x.way(0, 0, 3, i), want[i]);
        // from PLACE 1 at 7: 0 and 2 are lit at 8 alike, the lesser is first
        Due.is("way(1, 7, 1, NONE)", x.way(1, 7, 1, NONE), 1);
        Due.is("way(1, 7, 1, 1)", x.way(1, 7, 1, 1), 0);
        Due.is("way(1, 7, 1, 0)", x.way(1, 7, 1, 0), 1);
        Due.is("way(3, 0, 40, NONE)", x.way(3, 0, 40, NONE), 30);
        Due.is("way(3, 0, 40, 40)", x.way(3, 0, 40, 40), 3);
        Due.is("way(3, 1, 40, NONE), lit at its last", x.way(3, 1, 40, NONE), 30);
        // lit from 3 on: 1, 0, 1, 1, and neither at 7: there the least PLACE that it may be at
        int[] row = {0, 1, 0, 1, 1, 0};
        Due.is("way(0, 2, 5, NONE)", x.way(0, 2, 5, NONE), 4);
        for (int i = 0; i <= 5; i++) Due.is("way(0, 2, 5, " + i + ")", x.way(0, 2, 5, i), row[i]);
        Due.is("way(1, 999999, 1, NONE)", x.way(1, 999999, 1, NONE), 1);
        Due.is("the farm stays where it is", x.told(7), 0);
        Due.is("way(4, -1, 0, -2)", x.way(4, -1, 0, -2), UNKNOWN);
        Due.is("way(-1, 0, 1, 0)", x.way(-1, 0, 1, 0), UNKNOWN);
        int[][] outside = {{-1, 1, 0}, {1000000, 1, 0}, {0, 0, 0}, {0, 41, 0}, {0, -1, 0}, {0, 3, 4}, {0, 3, -2}, {0, 40, 41}, {0, MOST, 0}, {0, 1, LEAST}};
        for (int[] o : outside) Due.is("way outside", x.way(0, o[0], o[1], o[2]), OUTSIDE);
    }

    private static void mail() {
        TumblingRock x = rockAsTold();
        int[][] want = {{0, 0, 0, 0}, {0, 0, 1, NONE}, {0, 1, 0, NONE}, {1, 0, 2, 2}, {1, 0, 3, 1}, {1, 2, 5, NONE}, {1, 2, 11, 1},
            {1, 0, 1, NONE}, {3, 0, 1, NONE}, {3, 3, 1, 0}, {0, 1, 8, 1}, {0, 2, 8, NONE}};
        for (int[] w : want) Due.is("mail(" + w[0] + ", " + w[1] + ", " + w[2] + ")", x.mail(w[0], w[1], w[2]), w[3]);
        Due.is("mail(4, 0, -1)", x.mail(4, 0, -1), UNKNOWN);
        Due.is("mail(0, 4, 0)", x.mail(0, 4, 0), UNKNOWN);
        Due.is("mail(0, -1, 0)", x.mail(0, -1, 0), UNKNOWN);
        Due.is("mail(0, 0, -1)", x.mail(0, 0, -1), OUTSIDE);
        Due.is("mail(0, 0, 1000000)", x.mail(0, 0, 1000000), OUTSIDE);
        // it waits at 0, always lit, till 1 is lit at last
        TumblingRock y = Due.rock("turn 18,18,18,18,18;turn 9,9,9,9,9,9,10;place 18 9 9;place 9 10 9;way 1 0;", 2);
        Due.is("mail that waits", y.mail(0, 1, 0), 6);
        Due.is("mail that waits longer than a period", y.mail(0, 1, 7), 6);
    }

    private static void cross() {
        TumblingRock x = rockAsTold();
        int[][] want = {{0, 1, 0, 0}, {0, 1, 1, 8}, {1, 0, 9, 12}, {0, 2, 0, NONE}, {1, 3, 0, 2}, {1, 3, 12, 14}, {0, 3, 0, NONE}, {1, 3, 999999, 999999}};
        for (int[] w : want) Due.is("cross(" + w[0] + ", " + w[1] + ", " + w[2] + ")", x.cross(w[0], w[1], w[2]), w[3]);
        Due.is("cross(1, 1, -1)", x.cross(1, 1, -1), UNKNOWN);
        Due.is("cross(4, 0, 0)", x.cross(4, 0, 0), UNKNOWN);
        Due.is("cross(0, -1, 0)", x.cross(0, -1, 0), UNKNOWN);
        Due.is("cross(0, 1, -1)", x.cross(0, 1, -1), OUTSIDE);
        Due.is("cross(0, 1, 1000000)", x.cross(0, 1, 1000000), OUTSIDE);
        TumblingRock y = Due.rock("turn 0,9;place 18 9 9;place 18 9 9;", 2);
        Due.is("as high, but never lit", y.cross(0, 1, 0), NONE);
    }

    private static void store() {
        Due.is("store()", rockAsTold().store(), 1);
        Due.is("store() where none is ever lit", Due.rock("turn 9,9;place 1 1 1;place 2 2 2;", 2).store(), 0);
        Due.is("store() of the last", Due.rock("turn 0,0;place 18 9 9;place 9 9 9;place 0 0 0;", 3).store(), 2);
        Due.is("store() without turnings", Due.rock("place 0 0 0;", 1).store(), 0);
        Due.is("store() without places", Due.rock("turn 1,2;", 0).store(), NONE);
    }

    private static void see() {
        TumblingRock x = rockAsTold();
        Due.is("see(4, -1)", x.see(4, -1, true), UNKNOWN);
        Due.is("see(-1, 0)", x.see(-1, 0, true), UNKNOWN);
        Due.is("see(0, -1)", x.see(0, -1, true), OUTSIDE);
        Due.is("see(0, 10000)", x.see(0, 10000, true), OUTSIDE);
        for (int k = 1; k <= 19; k++) Due.is("see " + k, x.see(0, 4, true), k);
        Due.is("see(3, 9999)", x.see(3, 9999, true), 20);
        Due.is("see at 20", x.see(0, 0, true), FULL);
        Due.is("see(0, 10000) at 20", x.see(0, 10000, true), OUTSIDE);
        Due.is("see(4, 0) at 20", x.see(4, 0, true), UNKNOWN);
        Due.is("told(9)", x.told(9), 20);
        Due.is("fits(NONE, 0)", x.fits(NONE, 0), 3);
    }

    private static void fits() {
        TumblingRock x = rockAsTold();
        Due.is("all fit", x.fits(NONE, 0), 12);
        Due.is("fits(4, 0)", x.fits(4, 0), 1);
        Due.is("fits(4, 1)", x.fits(4, 1), 1);
        Due.is("fits(11, 0)", x.fits(11, 0), 3);
        Due.is("fits(11, 1)", x.fits(11, 1), 2);
        Due.is("fits(12, 1)", x.fits(12, 1), NONE);
        x.stay(1);
        x.knock(0, 2);
        x.see(0, 1, true);
        Due.is("by SHIFTS, not by what is so", x.fits(NONE, 0), 3);
        for (int i = 0; i < 3; i++) Due.is("fits(" + i + ", 0)", x.fits(i, 0), 3);
        for (int i = 0; i < 3; i++) Due.is("fits(" + i + ", 1)", x.fits(i, 1), i);
        x.see(1, 0, false);
        Due.is("fits(NONE, -5)", x.fits(NONE, -5), 1);
        Due.is("fits(0, 1)", x.fits(0, 1), 1);
        Due.is("fits(1, 1)", x.fits(1, 1), NONE);
        Due.is("fits(-2, 1)", x.fits(-2, 1), NONE);
        Due.is("fits(LEAST, 1)", x.fits(LEAST, 1), NONE);
        Due.is("fits(0, 2)", x.fits(0, 2), UNKNOWN);
        Due.is("fits(99, -1)", x.fits(99, -1), UNKNOWN);
        x.see(1, 0, true);
        Due.is("none fits", x.fits(NONE, 0), 0);
        Due.is("none fits: fits(0, 0)", x.fits(0, 0), NONE);
        TumblingRock y = Due.rock("place 9 9 9;", 1);
        y.see(0, 0, false);
        Due.is("the row of none", y.fits(NONE, 0), 1);
        Due.is("no turning of it", y.fits(0, 0), UNKNOWN);
        y.see(0, 0, true);
        Due.is("not even that", y.fits(NONE, 0), 0);
        TumblingRock z = Due.rock("turn 1,2;turn 1,2,3;turn 1,2;", 0);
        int[] want = {0, 1, 1};
        for (int k = 0; k < 3; k++) Due.is("fits(3, " + k + ")", z.fits(3, k), want[k]);
    }

    private static void look(TumblingRock x, String when, int p, int step, int part) {
        Due.is(when + ": look(0)", x.look(0), p);
        Due.is(when + ": look(1)", x.look(1), step);
        Due.is(when + ": look(2)", x.look(2), part);
    }

    private static void look() {
        TumblingRock x = rockAsTold();
        look(x, "all fit", 1, 0, 8);
        x.see(0, 0, true);
        look(x, "three fit", 1, 0, 2);
        x.see(1, 0, false);
        look(x, "one fits", NONE, NONE, NONE);
        x.see(1, 0, true);
        look(x, "none fits", NONE, NONE, NONE);
        x.tear();
        look(x, "all fit again", 1, 0, 8);
        Due.is("look(3)", x.look(3), OUTSIDE);
        Due.is("look(-1)", x.look(-1), OUTSIDE);
        TumblingRock y = Due.rock("turn 9,9;place 18 9 9;", 1);
        look(y, "never parted", NONE, NONE, NONE);
        Due.is("look(3) where none is", y.look(3), OUTSIDE);
        // SHIFTS 2 to 5 fit: step 1 parts them 1 and 3, step 2 in halves
        TumblingRock z = Due.rock("turn 10,10,8,8,8,8;place 10 9 9;", 1);
        z.see(0, 0, false);
        look(z, "four fit", 0, 2, 2);
        TumblingRock w = Due.rock("turn 10,8;place 9 9 9;place 10 9 9;", 2);
        look(w, "the second place", 1, 0, 1);
        // PLACE 1 is LIT where both turnings peak: what its peaks ahead leave is parted at 23 (as told) or at 24 (too late)
        String peaks = "turn 10,8,8,8,8,8,8,8,8,8,8;turn 10,8,8,8,8,8,8,8,8,8,8,8;place 10 9 9;place 10 10 9;";
        for (int last = 23; last <= 24; last++) {
            TumblingRock v = Due.rock(peaks, 2);
            v.see(0, last, true);
            v.see(1, last - 22, false);
            v.see(1, last - 11, false);
            Due.is("peaks: fits(NONE, 0)", v.fits(NONE, 0), 10);
            if (last == 23) look(v, "parted at 23", 1, 23, 9);
            else look(v, "parted at 24", NONE, NONE, NONE);
        }
    }

    private static void mend(TumblingRock x, int a, int b, int c, int... row) {
        String call = "mend(" + a + ", " + b + ", " + c + ", ";
        Due.is(call + "NONE)", x.mend(a, b, c, NONE), row.length);
        for (int i = 0; i < row.length; i++) Due.is(call + i + ")", x.mend(a, b, c, i), row[i]);
        Due.is(call + row.length + ")", x.mend(a, b, c, row.length), NONE);
    }

    private static void mend() {
        TumblingRock x = rockAsTold();
        mend(x, 0, 0, 11);
        mend(x, 3, 1, 0, 2);
        mend(x, 0, 2, 5, 1, 1);
        mend(x, 1, 1, 0, 0, 1);
        mend(x, 3, 2, 0, 1, 2);
        mend(x, 2, 2, 0, 2, 2);
        mend(x, 2, 1, 0, 0, 0, 1);
        x.knock(0, 2);
        mend(x, 2, 0, 0);
        mend(x, 0, 0, 0, 0, 0);
        Due.is("SHIFT 0 as it was", x.turning(0, 1), 2);
        Due.is("mend(4, 0, 0, NONE)", x.mend(4, 0, 0, NONE), NONE);
        Due.is("mend(0, 3, 0, 0)", x.mend(0, 3, 0, 0), NONE);
        Due.is("mend(0, 0, 0, -2)", x.mend(0, 0, 0, -2), NONE);
        int[][] outside = {{12, 0, 0}, {0, 12, 0}, {0, 0, 12}, {-1, 0, 0}, {0, -1, 0}, {0, 0, -1}};
        for (int[] o : outside) Due.is("mend outside", x.mend(o[0], o[1], o[2], NONE), OUTSIDE);
        TumblingRock y = Due.rock("turn 1,2,3,4;push 2 0 0;", 0);
        mend(y, 2, 0, 0, 0);
        Due.is("cannot be mended", y.mend(1, 0, 0, NONE), NONE);
        Due.is("cannot be mended: the first", y.mend(1, 0, 0, 0), NONE);
        Due.is("without pushes", Due.rock("turn 1,2;", 0).mend(1, 0, 0, NONE), NONE);
    }

    private static void write() {
        TumblingRock x = rockAsTold();
        Due.is("write(4)", x.write(4), UNKNOWN);
        Due.is("write(-1)", x.write(-1), UNKNOWN);
        for (int k = 1; k <= 30; k++) Due.is("write " + k, x.write(k % 4), k);
        Due.is("write at 30", x.write(0), FULL);
        Due.is("write(4) at 30", x.write(4), UNKNOWN);
        Due.is("told(10)", x.told(10), 30);
    }

    private static void tear() {
        TumblingRock x = rockAsTold();
        x.write(0);
        x.write(3);
        x.see(0, 0, true);
        Due.is("tear()", x.tear(), 3);
        Due.is("told(9)", x.told(9), 0);
        Due.is("told(10)", x.told(10), 0);
        Due.is("fits(NONE, 0)", x.fits(NONE, 0), 12);
        Due.is("judge(0)", x.judge(0), NONE);
        Due.is("tear() again", x.tear(), 0);
    }

    private static void judge() {
        TumblingRock x = rockAsTold();
        Due.is("no book: judge(1)", x.judge(1), 0);
        x.write(0);
        Due.is("judge(1): step 0 counts", x.judge(1), 1);
        x.write(1);
        x.write(1);
        Due.is("staying is no wrong", x.judge(0), NONE);
        x.write(3);
        x.write(0);
        Due.is("the first wrong", x.judge(0), 3);
        Due.is("LIGHT of all of it", x.judge(1), 4);
        x.knock(0, 1);
        Due.is("LIGHT behind a knock", x.judge(1), 1);
        x.stay(5);
        Due.is("LIGHT from step 0 on", x.judge(1), 1);
        Due.is("judge(2)", x.judge(2), OUTSIDE);
        Due.is("judge(-1)", x.judge(-1), OUTSIDE);
        TumblingRock y = rockAsTold();
        y.write(2);
        y.write(0);
        Due.is("the second is wrong", y.judge(0), 1);
    }

    private static void seed() {
        TumblingRock x = new TumblingRock();
        Due.is("seed(MOST)", x.seed(MOST), 0);
        Due.is("seed(-1)", x.seed(-1), OUTSIDE);
        Due.is("seed(LEAST)", x.seed(LEAST), OUTSIDE);
        Due.is("seed(0)", x.seed(0), MOST);
    }

    private static void images() {
        TumblingRock x = rockAsTold();
        x.go(1);
        x.stay(1);
        x.knock(1, 2);
        x.seed(9);
        Due.is("keep(1)", x.keep(1), 1);
        Due.is("goBack(0): not kept", x.goBack(0), NOT);
        x.keep(0);
        x.go(2);
        x.stay(50);
        x.knock(0, 3);
        x.seed(10);
        x.write(0);
        x.see(0, 0, true);
        x.keep(0);
        for (int round = 0; round < 2; round++) {
            Due.is("goBack(1)", x.goBack(1), 1);
            Due.is("STEP", x.told(6), 2);
            Due.is("where", x.told(7), 1);
            Due.is("LIGHT", x.told(8), 1);
            Due.is("SHIFT 0", x.turning(0, 1), 0);
            Due.is("SHIFT 1", x.turning(1, 1), 2);
            Due.is("THE SEED", x.seed(11), 9);
            Due.is("the book is no part of it", x.told(10), 1);
            Due.is("what was seen is no part of it", x.told(9), 1);
            x.stay(3);
        }
        Due.is("goBack(0)", x.goBack(0), 1);
        Due.is("STEP", x.told(6), 53);
        Due.is("SHIFT 0", x.turning(0, 1), 3);
        for (int i : new int[] {2, -1, LEAST, MOST}) {
            Due.is("keep(" + i + ")", x.keep(i), UNKNOWN);
            Due.is("goBack(" + i + ")", x.goBack(i), UNKNOWN);
        }
    }
}
