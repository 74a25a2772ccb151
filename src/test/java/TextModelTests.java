/** All texts of up to five bits behind some starts, read by TumblingRock and by PlainRock: the same FAULT at the same byte. */
public final class TextModelTests {
    private static final String[] BITS = {"turn", "place", "way", "push", " ", "0", "1", "19", "9999", ";", ","};
    private static final int CALLS = 512;

    private static TumblingRock x = new TumblingRock();
    private static int calls;

    private TextModelTests() { }

    public static void main(String[] args) {
        Due.watch("TextModelTests", 10);
        String full = "place 9 9 9;".repeat(8) + "push 0 0 0;".repeat(4);
        all("", 5);
        all("place 1 2 3;place 4 5 6;", 5);
        all("turn 1,2,3,4,5,6,7,8,9,10,11,", 5);
        all("turn 1,2;".repeat(3), 4);
        all("place 1 2 3;place 4 5 6;place 0 0 0;way 0 1;way 2 ", 5);
        all(full, 4);
        all(full + twelveWays(), 4);
        Due.close("TextModelTests");
    }

    private static String twelveWays() {
        StringBuilder s = new StringBuilder();
        for (int q = 1; q < 8; q++) s.append("way0 ").append(q).append(";");
        for (int q = 2; q < 7; q++) s.append("way1 ").append(q).append(";");
        return s.toString();
    }

    private static void all(String start, int bits) {
        read(start);
        for (int k = 0; k < BITS.length && bits > 0; k++) all(start + BITS[k], bits - 1);
    }

    private static void read(String text) {
        int needed = (text.length() + 7) / 8 + 2;
        if (calls + needed > CALLS) {
            x = new TumblingRock();
            calls = 0;
        }
        calls += needed;
        for (int from = 0; from < text.length(); from += 8) {
            int n = Math.min(8, text.length() - from);
            x.feed(n, Due.packed(text.substring(from, from + n)));
        }
        PlainRock.Told told = PlainRock.parse(text);
        Due.is("rock() of '" + text + "'", x.rock(), told.fault > 0 ? -10 - told.fault : told.places.size());
        Due.is("fault() of '" + text + "'", x.fault(), told.faultAt);
    }
}
