import java.io.IOException;
import java.lang.reflect.Constructor;
import java.lang.reflect.Field;
import java.lang.reflect.Method;
import java.lang.reflect.Modifier;
import java.nio.file.Files;
import java.nio.file.Path;
import java.util.Arrays;
import java.util.TreeSet;
import java.util.regex.Matcher;
import java.util.regex.Pattern;
import java.util.stream.Collectors;

/** The document's face and nothing beside it, and those rules of LANGUAGE.md that can be read off the source. */
public final class FaceTest {
    private static final String SOURCE = "src/main/java/MainsLetters.java";
    private static final String[] METHODS = {
        "loss 4", "noise 4", "margin 1", "key 2", "bits 4", "speed 3", "who 2", "lasts 3", "way 4", "seed 1", "write 4",
        "unwrite 1", "pass 1", "ofStation 2", "flow 6", "disturbs 1", "turn 1", "many 1"};
    private static final String[] CONSTANTS = {"UNKNOWN", "OUTSIDE", "STATE", "NONE"};
    private static final String[] FORBIDDEN = {
        "\\bthrow\\b", "\\btry\\b", "\\bcatch\\b", "\\bsynchronized\\b", "\\bassert\\b", "->", "::", "\\bimport\\b",
        "\\bpackage\\b", "\\bSystem\\b", "\\w+Exact\\b", "\\[\\]\\s*\\[\\]\\s*\\[\\]", "@", "\\bstatic\\s*\\{", "\\bequals\\b",
        "\\bhashCode\\b", "\\btoString\\b", "\\bprotected\\b"};
    private static final Due due = new Due();

    public static void main(String[] args) throws IOException {
        due.holds("the class is public and final", isPublic(MainsLetters.class.getModifiers()) && Modifier.isFinal(MainsLetters.class.getModifiers()));
        methods();
        constants();
        constructors();
        classesInside();
        source();
        due.end();
    }

    private static boolean isPublic(int modifiers) {
        return Modifier.isPublic(modifiers);
    }

    private static void methods() {
        TreeSet<String> seen = new TreeSet<>();
        TreeSet<String> face = namesOfTheFace();
        for (Method m : MainsLetters.class.getDeclaredMethods()) {
            if (Modifier.isPrivate(m.getModifiers())) {
                due.holds(m + " bears no name of the face", !face.contains(m.getName()));
                continue;
            }
            boolean plain = isPublic(m.getModifiers()) && !Modifier.isStatic(m.getModifiers()) && m.getReturnType() == int.class;
            boolean ints = Arrays.stream(m.getParameterTypes()).allMatch(type -> type == int.class);
            due.holds(m + " is public and of ints", plain && ints);
            seen.add(m.getName() + " " + m.getParameterCount());
        }
        due.holds("the methods are " + seen, seen.equals(new TreeSet<>(Arrays.asList(METHODS))));
    }

    private static void constants() {
        TreeSet<String> seen = new TreeSet<>();
        for (Field f : MainsLetters.class.getDeclaredFields()) {
            if (Modifier.isStatic(f.getModifiers())) due.holds(f + " is final", Modifier.isFinal(f.getModifiers()));
            if (Modifier.isPrivate(f.getModifiers())) continue;
            due.holds(f + " is a public constant", isPublic(f.getModifiers()) && Modifier.isStatic(f.getModifiers()) && f.getType() == int.class);
            seen.add(f.getName());
        }
        due.holds("the constants are " + seen, seen.equals(new TreeSet<>(Arrays.asList(CONSTANTS))));
    }

    private static void constructors() {
        Constructor<?>[] all = MainsLetters.class.getDeclaredConstructors();
        due.holds("one public constructor without arguments", all.length == 1 && isPublic(all[0].getModifiers()) && all[0].getParameterCount() == 0);
    }

    private static TreeSet<String> namesOfTheFace() {
        return Arrays.stream(METHODS).map(m -> m.split(" ")[0]).collect(Collectors.toCollection(TreeSet::new));
    }

    private static void classesInside() {
        TreeSet<String> face = namesOfTheFace();
        Class<?>[] inside = MainsLetters.class.getDeclaredClasses();
        due.holds("twelve classes at most", inside.length < 12);
        for (Class<?> c : inside) {
            due.holds(c + " is static and not public", Modifier.isStatic(c.getModifiers()) && !isPublic(c.getModifiers()));
            int fields = 0;
            for (Field f : c.getDeclaredFields()) {
                if (!Modifier.isStatic(f.getModifiers())) fields++;
                else due.holds(f + " is final", Modifier.isFinal(f.getModifiers()));
            }
            due.holds(c + " has twenty fields at most", fields <= 20);
            for (Method m : c.getDeclaredMethods()) {
                due.holds(m + " bears no name of the face", !face.contains(m.getName()));
                due.holds(m + " takes seven at most", m.getParameterCount() <= 7);
            }
        }
    }

    private static void source() throws IOException {
        String text = Files.readString(Path.of(SOURCE));
        due.holds("signs 1 to 127 alone", text.chars().allMatch(sign -> sign > 0 && sign < 128));
        String code = text.replaceAll("(?s)/\\*.*?\\*/", " ").replaceAll("//[^\n]*", " ");
        for (String word : FORBIDDEN) {
            Matcher found = Pattern.compile(word).matcher(code);
            due.holds("the source has no " + word, !found.find());
        }
        shortMethods(text.split("\n"));
    }

    /** A method begins at a line with two or one indents that ends in "{", and ends at the next "}" that stands as deep. */
    private static void shortMethods(String[] lines) {
        for (int i = 0; i < lines.length; i++) {
            Matcher head = Pattern.compile("^( {4}| {8})\\w[^;=]*\\) \\{$").matcher(lines[i]);
            if (!head.find()) continue;
            int end = i;
            while (end < lines.length && !lines[end].equals(head.group(1) + "}")) end++;
            due.holds(lines[i].trim() + " has sixty lines at most", end - i < 60);
        }
    }
}
