import java.io.IOException;
import java.nio.file.Files;
import java.nio.file.Path;

/** Counts answers that are due and says which are not; shared by the tests of this project. */
final class Due {
    private static int right, wrong;
    private static String document = "", sentence = "";

    private Due() { }

    /** A call that does not end is a failing test, not one that is waited for. */
    static void watch(String name, int minutes) {
        Thread watcher = new Thread(() -> {
            try {
                Thread.sleep(minutes * 60_000L);
            } catch (InterruptedException e) {
                return;
            }
            System.out.println(name + ": not at its end after " + minutes + " minutes");
            Runtime.getRuntime().halt(1);
        });
        watcher.setDaemon(true);
        watcher.start();
    }

    static void is(String call, long got, long want) {
        if (got == want) {
            right++;
            return;
        }
        wrong++;
        if (wrong > 50) return;
        System.out.println((sentence.isEmpty() ? "" : "[" + sentence + "] ") + call + " answered " + got + ", due is " + want);
    }

    static void isTrue(String what, boolean holds) {
        is(what, holds ? 1 : 0, 1);
    }

    /** The document that the words of edge() are looked up in. */
    static void document(String path) throws IOException {
        document = plain(Files.readString(Path.of(path)));
    }

    /** A test of its own for words of the document: they must stand there, or the test is of nothing. */
    static void edge(String words, Runnable test) {
        sentence = words;
        isTrue("these words stand in the document", document.contains(plain(words)));
        test.run();
        sentence = "";
    }

    private static String plain(String text) {
        return text.replaceAll("\\s+", " ");
    }

    /** Feeds a text eight bytes at a time, as many as are left at the end. */
    static void feed(TumblingRock x, String text) {
        for (int from = 0; from < text.length(); from += 8) {
            int n = Math.min(8, text.length() - from);
            is("feed of " + text, x.feed(n, packed(text.substring(from, from + n))), x.told(4));
        }
    }

    static long packed(String text) {
        long bytes = 0;
        for (int i = 0; i < text.length(); i++) bytes = bytes << 8 | text.charAt(i) & 255;
        return bytes;
    }

    static TumblingRock rock(String text, int places) {
        TumblingRock x = new TumblingRock();
        feed(x, text);
        is("rock() of " + text, x.rock(), places);
        return x;
    }

    /** A text with a FAULT, on a new object. */
    static void fault(String text, int number, int at) {
        TumblingRock x = new TumblingRock();
        feed(x, text);
        is("rock() of '" + text + "'", x.rock(), -10 - number);
        is("fault() of '" + text + "'", x.fault(), at);
        is("the text is empty behind '" + text + "'", x.told(4), 0);
    }

    /** The closing line that .ci/run adds up, and the exit code. */
    static void close(String name) {
        System.out.println(name + ": " + right + " passed, " + wrong + " failed");
        if (wrong != 0) System.exit(1);
    }
}
