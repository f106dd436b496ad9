import java.io.IOException;
import java.lang.reflect.Constructor;
import java.lang.reflect.Field;
import java.lang.reflect.Method;
import java.lang.reflect.Modifier;
import java.nio.file.Files;
import java.nio.file.Path;
import java.util.ArrayList;
import java.util.Arrays;
import java.util.List;
import java.util.Map;
import java.util.Set;
import java.util.TreeMap;
import java.util.TreeSet;
import java.util.regex.Matcher;
import java.util.regex.Pattern;
import java.util.stream.Collectors;

/** The document's face and nothing beside it, and those rules of LANGUAGE.md that can be read off the source. */
public final class FaceTest {
    private static final String SOURCE = "src/main/java/MainsLetters.java";
    /** The interface, with what it says ahead of calls. */
    private static final String[] INTERFACE = {
        "---- 1 the wire", "loss(int a, int b, int tone, int v)", "noise(int s, int tone, int half, int v)", "margin(int v)",
        "key(int s, int v)", "bits(int a, int b, int tone, int half)", "speed(int a, int b, int half)", "who(int s, int what)",
        "---- 2 how long it lasts", "lasts(int a, int b, int n)", "way(int a, int b, int n, int k)",
        "---- 3 contention", "seed(int v)", "write(int a, int b, int ofClass, int bytes)", "unwrite(int s)", "pass(int n)",
        "ofStation(int s, int what)",
        "---- 4 flows", "flow(int n, int window, int bad, int deaf, int seed, int what)",
        "---- 5 networks", "disturbs(int key)", "turn(int key)", "many(int what)"};
    private static final String[] CONSTANTS = {"UNKNOWN", "OUTSIDE", "STATE", "NONE"};
    private static final int[] VALUES = {-1, -2, -3, -9};
    private static final String[] FORBIDDEN = {
        "\\bthrow\\b", "\\btry\\b", "\\bcatch\\b", "\\bsynchronized\\b", "\\bassert\\b", "->", "::", "\\bimport\\b",
        "\\bpackage\\b", "\\bSystem\\b", "\\w+Exact\\b", "\\[\\]\\s*\\[\\]\\s*\\[\\]", "@", "\\bstatic\\s*\\{", "\\bequals\\b",
        "\\bhashCode\\b", "\\btoString\\b", "\\bprotected\\b"};
    private static final Due due = new Due();

    public static void main(String[] args) throws IOException, ReflectiveOperationException {
        due.holds("the class is public and final", isPublic(MainsLetters.class.getModifiers()) && Modifier.isFinal(MainsLetters.class.getModifiers()));
        methods();
        constants();
        values();
        constructors();
        classesInside();
        source();
        due.end();
    }

    private static boolean isPublic(int modifiers) {
        return Modifier.isPublic(modifiers);
    }

    private static void methods() {
        TreeSet<String> seen = new TreeSet<>();
        TreeSet<String> face = namesOfTheFace();
        for (Method m : MainsLetters.class.getDeclaredMethods()) {
            if (Modifier.isPrivate(m.getModifiers())) {
                due.holds(m + " bears no name of the face", !face.contains(m.getName()));
                continue;
            }
            boolean plain = isPublic(m.getModifiers()) && !Modifier.isStatic(m.getModifiers()) && m.getReturnType() == int.class;
            boolean ints = Arrays.stream(m.getParameterTypes()).allMatch(type -> type == int.class);
            due.holds(m + " is public and of ints", plain && ints);
            due.holds("no two methods are named " + m.getName(), seen.add(m.getName()));
        }
        due.holds("the methods are " + seen, seen.equals(face));
    }

    private static void constants() {
        TreeSet<String> seen = new TreeSet<>();
        for (Field f : MainsLetters.class.getDeclaredFields()) {
            if (Modifier.isStatic(f.getModifiers())) due.holds(f + " is final", Modifier.isFinal(f.getModifiers()));
            if (Modifier.isPrivate(f.getModifiers())) continue;
            due.holds(f + " is a public constant", isPublic(f.getModifiers()) && Modifier.isStatic(f.getModifiers()) && f.getType() == int.class);
            seen.add(f.getName());
        }
        due.holds("the constants are " + seen, seen.equals(new TreeSet<>(Arrays.asList(CONSTANTS))));
    }

    private static void values() throws ReflectiveOperationException {
        for (int i = 0; i < CONSTANTS.length; i++) {
            due.is(CONSTANTS[i], MainsLetters.class.getDeclaredField(CONSTANTS[i]).getInt(null), VALUES[i]);
        }
    }

    private static void constructors() {
        Constructor<?>[] all = MainsLetters.class.getDeclaredConstructors();
        due.holds("one public constructor without arguments", all.length == 1 && isPublic(all[0].getModifiers()) && all[0].getParameterCount() == 0);
    }

    private static TreeSet<String> namesOfTheFace() {
        return Arrays.stream(INTERFACE).filter(line -> line.contains("("))
            .map(line -> line.substring(0, line.indexOf('('))).collect(Collectors.toCollection(TreeSet::new));
    }

    private static void classesInside() {
        TreeSet<String> face = namesOfTheFace();
        Class<?>[] inside = MainsLetters.class.getDeclaredClasses();
        due.holds("twelve classes at most", inside.length < 12);
        for (Class<?> c : inside) {
            due.holds(c + " is static and not public", Modifier.isStatic(c.getModifiers()) && !isPublic(c.getModifiers()));
            int fields = 0;
            for (Field f : c.getDeclaredFields()) {
                if (!Modifier.isStatic(f.getModifiers())) fields++;
                else due.holds(f + " is final", Modifier.isFinal(f.getModifiers()));
            }
            due.holds(c + " has twenty fields at most", fields <= 20);
            for (Method m : c.getDeclaredMethods()) {
                due.holds(m + " bears no name of the face", !face.contains(m.getName()));
                due.holds(m + " takes seven at most", m.getParameterCount() <= 7);
            }
        }
    }

    private static void source() throws IOException {
        String text = Files.readString(Path.of(SOURCE));
        due.holds("signs 1 to 127 alone", text.chars().allMatch(sign -> sign > 0 && sign < 128));
        String code = text.replaceAll("(?s)/\\*.*?\\*/", " ").replaceAll("//[^\n]*", " ");
        for (String word : FORBIDDEN) {
            Matcher found = Pattern.compile(word).matcher(code);
            due.holds("the source has no " + word, !found.find());
        }
        interfaceInOrder(text);
        shortMethods(text.split("\n"));
        List<String> deepest = deepestCalls(code);
        due.holds("calls go eight deep at most: " + deepest, deepest.size() <= 8);
    }

    /** Each call with its numbers in their order, each heading ahead of its calls. */
    private static void interfaceInOrder(String text) {
        int at = 0;
        for (String line : INTERFACE) {
            int next = text.indexOf(line.startsWith("-") ? "    // " + line + "\n" : "    public int " + line + " {\n", at);
            due.holds("the source has, in the interface's order: " + line, next >= 0);
            at = Math.max(at, next);
        }
    }

    /** The longest row of methods each of which calls the next one; those of one name are taken for one. */
    private static List<String> deepestCalls(String code) {
        Map<String, Set<String>> calls = callsOf(code);
        due.holds("methods are found in the source", calls.size() > 90);
        List<String> longest = new ArrayList<>();
        for (String method : calls.keySet()) {
            List<String> row = longestFrom(method, calls, 0);
            if (row.size() > longest.size()) longest = row;
        }
        return longest;
    }

    /** Of each method or constructor those others that stand in its body with a bracket behind them. */
    private static Map<String, Set<String>> callsOf(String code) {
        Matcher head = Pattern.compile("(?m)^( {4}| {8})(?:[\\w\\[\\]]+ )*(\\w+)\\([^;=]*\\) \\{\n((?s:.*?))^\\1\\}").matcher(code);
        Map<String, String> bodies = new TreeMap<>();
        while (head.find()) bodies.merge(head.group(2), head.group(3), String::concat);
        Map<String, Set<String>> calls = new TreeMap<>();
        for (String method : bodies.keySet()) {
            Set<String> called = new TreeSet<>();
            Matcher call = Pattern.compile("\\b(\\w+)\\(").matcher(bodies.get(method));
            while (call.find()) called.add(call.group(1));
            called.retainAll(bodies.keySet());
            called.remove(method);
            calls.put(method, called);
        }
        return calls;
    }

    /** No row is followed beyond 20 methods, so that methods that call one another in a ring are found too long. */
    private static List<String> longestFrom(String method, Map<String, Set<String>> calls, int depth) {
        List<String> longest = new ArrayList<>();
        if (depth >= 20) return longest;
        for (String next : calls.get(method)) {
            List<String> row = longestFrom(next, calls, depth + 1);
            if (row.size() > longest.size()) longest = row;
        }
        longest.add(0, method);
        return longest;
    }

    /** A method begins at a line with two or one indents that ends in "{", and ends at the next "}" that stands as deep. */
    private static void shortMethods(String[] lines) {
        for (int i = 0; i < lines.length; i++) {
            Matcher head = Pattern.compile("^( {4}| {8})\\w[^;=]*\\) \\{$").matcher(lines[i]);
            if (!head.find()) continue;
            int end = i;
            while (end < lines.length && !lines[end].equals(head.group(1) + "}")) end++;
            due.holds(lines[i].trim() + " has sixty lines at most", end - i < 60);
        }
    }
}
