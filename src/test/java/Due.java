/** Counts answers that are due and says which are not; shared by the tests of this project. */
final class Due {
    private static int right, wrong;

    private Due() { }

    /** A call that does not end is a failing test, not one that is waited for. */
    static void watch(String name, int minutes) {
        Thread watcher = new Thread(() -> {
            try {
                Thread.sleep(minutes * 60_000L);
            } catch (InterruptedException e) {
                return;
            }
            System.out.println(name + ": not at its end after " + minutes + " minutes");
            Runtime.getRuntime().halt(1);
        });
        watcher.setDaemon(true);
        watcher.start();
    }

    static void is(String call, long got, long want) {
        if (got == want) {
            right++;
            return;
        }
        wrong++;
        if (wrong <= 50) System.out.println(call + " answered " + got + ", due is " + want);
    }

    static void isTrue(String what, boolean holds) {
        is(what, holds ? 1 : 0, 1);
    }

    /** Feeds a text eight bytes at a time, as many as are left at the end. */
    static void feed(TumblingRock x, String text) {
        for (int from = 0; from < text.length(); from += 8) {
            int n = Math.min(8, text.length() - from);
            is("feed of " + text, x.feed(n, packed(text.substring(from, from + n))), x.told(4));
        }
    }

    static long packed(String text) {
        long bytes = 0;
        for (int i = 0; i < text.length(); i++) bytes = bytes << 8 | text.charAt(i) & 255;
        return bytes;
    }

    static TumblingRock rock(String text, int places) {
        TumblingRock x = new TumblingRock();
        feed(x, text);
        is("rock() of " + text, x.rock(), places);
        return x;
    }

    /** The closing line that .ci/run adds up, and the exit code. */
    static void close(String name) {
        System.out.println(name + ": " + right + " passed, " + wrong + " failed");
        if (wrong != 0) System.exit(1);
    }
}
