import java.lang.reflect.Method;
import java.nio.file.Files;
import java.nio.file.Path;
import java.util.ArrayList;
import java.util.List;
import java.util.Set;
import java.util.TreeSet;
import java.util.regex.Matcher;
import java.util.regex.Pattern;

/** Makes the calls that README.md (third argument) shows, line by line: each is to answer what stands behind it. */
public final class ReadmeTests {
    private static final Pattern FED = Pattern.compile("feed\\(x, \"([^\"]*)\"\\);.*");
    private static final Pattern CALL = Pattern.compile("x\\.(\\w+)\\(([^)]*)\\);\\s+// (-?\\w+)(:.*)?");

    private static TumblingRock x;
    private static final Set<String> shown = new TreeSet<>();

    public static void main(String[] args) throws Exception {
        List<String> lines = lastBlock(Files.readString(Path.of(args[2])));
        for (String line : lines) make(line);
        for (Method m : TumblingRock.class.getDeclaredMethods()) {
            if (java.lang.reflect.Modifier.isPublic(m.getModifiers())) {
                Due.isTrue("README.md shows a call of " + m.getName(), shown.contains(m.getName()));
            }
        }
        Due.close("ReadmeTests");
    }

    /** The calls stand in the last block of Java. */
    private static List<String> lastBlock(String readme) {
        List<String> lines = new ArrayList<>();
        boolean inside = false;
        for (String line : readme.split("\n")) {
            if (line.equals("```java")) lines.clear();
            if (line.startsWith("```")) inside = line.equals("```java");
            else if (inside && !line.isBlank()) lines.add(line);
        }
        return lines;
    }

    private static void make(String line) throws Exception {
        Matcher fed = FED.matcher(line), call = CALL.matcher(line);
        if (line.equals("TumblingRock x = new TumblingRock();")) {
            x = new TumblingRock();
        } else if (fed.matches()) {
            Due.feed(x, fed.group(1));
            shown.add("feed");
        } else if (call.matches()) {
            shown.add(call.group(1));
            Due.is("README.md: " + line, answer(call.group(1), call.group(2)), number(call.group(3)));
        } else {
            Due.isTrue("README.md: a call and what it answers: " + line, false);
        }
    }

    private static int answer(String name, String arguments) throws Exception {
        String[] words = arguments.isEmpty() ? new String[0] : arguments.split(", ");
        for (Method m : TumblingRock.class.getDeclaredMethods()) {
            if (!m.getName().equals(name) || m.getParameterCount() != words.length) continue;
            Object[] values = new Object[words.length];
            for (int i = 0; i < words.length; i++) {
                if (m.getParameterTypes()[i] == boolean.class) values[i] = words[i].equals("true");
                else values[i] = number(words[i]);
            }
            return (Integer) m.invoke(x, values);
        }
        throw new IllegalArgumentException("no such call: " + name + "(" + arguments + ")");
    }

    private static int number(String word) throws Exception {
        if (word.matches("[A-Z]+")) return TumblingRock.class.getField(word).getInt(null);
        return Integer.parseInt(word);
    }
}
