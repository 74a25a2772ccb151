import java.lang.reflect.Field;
import java.lang.reflect.Member;
import java.lang.reflect.Method;
import java.lang.reflect.Modifier;
import java.nio.file.Files;
import java.nio.file.Path;
import java.util.ArrayList;
import java.util.Arrays;
import java.util.HashSet;
import java.util.List;
import java.util.Map;
import java.util.Set;
import java.util.TreeMap;
import java.util.TreeSet;
import java.util.regex.Matcher;
import java.util.regex.Pattern;

/** The rules of ../shared/LANGUAGE.md that can be looked up in the class or in its source (first argument). */
public final class LanguageTests {
    private static final String[] FACE = {"feed int long", "rock", "fault", "told int", "turning int int", "place int int",
        "height int int", "stay int", "go int", "knock int int", "push int", "drift int", "next int int int", "share int int",
        "stand int int int int", "way int int int int", "mail int int int", "cross int int int", "store",
        "see int int boolean", "fits int int", "look int", "mend int int int int", "write int", "tear", "judge int",
        "seed int", "keep int", "goBack int"};
    private static final String[] NO_WORDS = {"throw", "throws", "try", "catch", "synchronized", "assert", "import", "package",
        "protected", "Object", "equals", "hashCode", "toString", "floorModExact", "addExact", "yield", "volatile", "native",
        "var", "System", "Thread", "null"};

    public static void main(String[] args) throws Exception {
        theFace();
        theClassesInside();
        constants();
        source(Files.readString(Path.of(args[0])));
        Due.close("LanguageTests");
    }

    private static void theFace() {
        Class<?> c = TumblingRock.class;
        Due.isTrue("public and final", Modifier.isPublic(c.getModifiers()) && Modifier.isFinal(c.getModifiers()));
        Due.is("constructors", c.getDeclaredConstructors().length, 1);
        Due.isTrue("its constructor is public", Modifier.isPublic(c.getDeclaredConstructors()[0].getModifiers()));
        Set<String> want = new TreeSet<>(Arrays.asList(FACE)), got = new TreeSet<>();
        for (Method m : c.getDeclaredMethods()) {
            if (m.isSynthetic()) continue;
            if (Modifier.isPrivate(m.getModifiers())) {
                Due.isTrue("no private method bears a public name: " + m.getName(), !publicNames().contains(m.getName()));
                continue;
            }
            StringBuilder s = new StringBuilder(m.getName());
            for (Class<?> p : m.getParameterTypes()) s.append(" ").append(p.getName());
            got.add(s.toString());
            Due.isTrue(m + " is public and answers an int", Modifier.isPublic(m.getModifiers()) && m.getReturnType() == int.class);
        }
        Due.isTrue("the face is " + got, got.equals(want));
    }

    private static Set<String> publicNames() {
        Set<String> names = new HashSet<>();
        for (String f : FACE) names.add(f.split(" ")[0]);
        return names;
    }

    private static void theClassesInside() {
        Class<?>[] inside = TumblingRock.class.getDeclaredClasses();
        Due.isTrue("some twelve classes at most", inside.length <= 11);
        List<Class<?>> all = new ArrayList<>(Arrays.asList(inside));
        for (Class<?> c : all) Due.isTrue(c + " is static, private", Modifier.isStatic(c.getModifiers()) && Modifier.isPrivate(c.getModifiers()));
        all.add(TumblingRock.class);
        for (Class<?> c : all) {
            int own = 0;
            for (Field f : c.getDeclaredFields()) {
                if (!Modifier.isStatic(f.getModifiers())) own++;
                else Due.isTrue(f + " is final", Modifier.isFinal(f.getModifiers()));
            }
            Due.isTrue(c + " has some twenty fields at most", own <= 20);
            for (Method m : c.getDeclaredMethods()) Due.isTrue(m + " takes seven at most", m.getParameterCount() <= 7);
            for (Member m : c.getDeclaredMethods()) {
                boolean hidden = c == TumblingRock.class || !publicNames().contains(m.getName());
                Due.isTrue(m + " bears no name of the face", hidden);
            }
        }
    }

    private static void constants() throws Exception {
        String[] names = {"NONE", "UNKNOWN", "OUTSIDE", "NOT", "FULL"};
        int[] values = {-1, -1000000001, -1000000002, -1000000003, -1000000004};
        int many = 0;
        for (Field f : TumblingRock.class.getDeclaredFields()) if (!Modifier.isPrivate(f.getModifiers())) many++;
        Due.is("public fields", many, names.length);
        for (int i = 0; i < names.length; i++) {
            Field f = TumblingRock.class.getDeclaredField(names[i]);
            Due.isTrue(names[i] + " is public static final int", f.getType() == int.class
                && f.getModifiers() == (Modifier.PUBLIC | Modifier.STATIC | Modifier.FINAL));
            Due.is(names[i], f.getInt(null), values[i]);
        }
    }

    private static void source(String text) {
        String code = text.replaceAll("(?s)/\\*.*?\\*/", "").replaceAll("//[^\n]*", "").replaceAll("\"[^\"\n]*\"", "\"\"");
        for (String word : NO_WORDS) Due.isTrue("no '" + word + "'", !Pattern.compile("\\b" + word + "\\b").matcher(code).find());
        Due.isTrue("no lambda, no method reference", !code.contains("->") && !code.contains("::"));
        Due.isTrue("signs 1 to 127", text.chars().allMatch(c -> c >= 1 && c <= 127));
        Matcher made = Pattern.compile("\\bnew\\s+(\\w+)").matcher(code);
        Set<String> kinds = new TreeSet<>();
        while (made.find()) kinds.add(made.group(1));
        kinds.removeAll(Set.of("int", "boolean", "Text", "Reader", "Rock", "Farm", "Sight", "Route", "Mender", "Book"));
        Due.isTrue("makes nothing but its own rows and parts: " + kinds, kinds.isEmpty());
        Map<String, String> bodies = bodies(code);
        Due.isTrue("all methods are found", bodies.keySet().containsAll(publicNames()) && bodies.containsKey("turned"));
        for (Map.Entry<String, String> body : bodies.entrySet()) {
            Due.isTrue(body.getKey() + " has some sixty lines at most", body.getValue().split("\n").length <= 60);
            List<String> calls = deepest(body.getKey(), bodies, 0);
            Due.isTrue("calls go eight deep at most, and none calls itself: " + calls, calls.size() <= 8);
        }
    }

    /** By name, all methods and constructors; those of one name are taken as one, which can only make calls look deeper. */
    private static Map<String, String> bodies(String code) {
        Map<String, String> bodies = new TreeMap<>();
        Matcher m = Pattern.compile("(?s)\n(    |        )(?:public |private |static )*(?:int |boolean |void )?(\\w+)\\([^)]*\\) \\{\n(.*?)\n\\1\\}")
            .matcher(code);
        while (m.find()) bodies.merge(m.group(2), m.group(3), (a, b) -> a + "\n" + b);
        return bodies;
    }

    private static List<String> deepest(String name, Map<String, String> bodies, int depth) {
        List<String> best = new ArrayList<>();
        Matcher m = Pattern.compile("\\b(\\w+)\\(").matcher(bodies.get(name));
        while (m.find() && depth < 20) {
            if (!bodies.containsKey(m.group(1))) continue;
            List<String> calls = deepest(m.group(1), bodies, depth + 1);
            if (calls.size() > best.size()) best = calls;
        }
        best.add(0, name);
        return best;
    }
}
