import java.io.IOException;
import java.nio.file.Files;
import java.nio.file.Path;
import java.util.ArrayList;
import java.util.Arrays;
import java.util.List;
import java.util.TreeSet;
import java.util.regex.Matcher;
import java.util.regex.Pattern;

/** README.md: each call has its section, tells the refusals that it knows and no others, and its examples answer so. */
public final class ReadmeTest {
    /** Of each call: its numbers in their order; which of the four constants it may answer. */
    private static final String[][] CALLS = {
        {"loss(a, b, tone, v)", "UNKNOWN OUTSIDE"},
        {"noise(s, tone, half, v)", "UNKNOWN OUTSIDE"},
        {"margin(v)", "OUTSIDE"},
        {"key(s, v)", "UNKNOWN OUTSIDE"},
        {"bits(a, b, tone, half)", "UNKNOWN"},
        {"speed(a, b, half)", "UNKNOWN"},
        {"who(s, what)", "UNKNOWN OUTSIDE"},
        {"lasts(a, b, n)", "UNKNOWN OUTSIDE NONE"},
        {"way(a, b, n, k)", "UNKNOWN OUTSIDE NONE"},
        {"seed(v)", ""},
        {"write(a, b, ofClass, bytes)", "UNKNOWN OUTSIDE STATE"},
        {"unwrite(s)", "UNKNOWN STATE"},
        {"pass(n)", "OUTSIDE"},
        {"ofStation(s, what)", "UNKNOWN OUTSIDE NONE"},
        {"flow(n, window, bad, deaf, seed, what)", "OUTSIDE"},
        {"disturbs(key)", "UNKNOWN"},
        {"turn(key)", "UNKNOWN"},
        {"many(what)", "OUTSIDE"},
    };
    private static final Pattern BULLET = Pattern.compile("(?m)^- `(UNKNOWN|OUTSIDE|STATE|NONE)`: ");
    private static final Pattern BLOCK = Pattern.compile("(?s)```java\n(.*?)```");
    private static final Pattern EXAMPLE = Pattern.compile("x\\.(\\w+)\\(([-0-9, ]*)\\); +// (-?\\d+|[A-Z]+)\\b.*");
    private static final Pattern ALL_TONES =
        Pattern.compile("for \\(int tone = 0; tone < 8; tone\\+\\+\\) x\\.loss\\((\\d), (\\d), tone, (\\d+)\\);");
    private static final Due due = new Due();

    public static void main(String[] args) throws IOException {
        String text = Files.readString(Path.of("README.md"));
        sections(text);
        Matcher block = BLOCK.matcher(text);
        while (block.find()) run(block.group(1));
        due.holds("README.md says how many calls an object is used for", text.contains("at most 512 calls"));
        due.holds("README.md says how to run the tests", text.contains("    .ci/run\n"));
        due.end();
    }

    private static void sections(String text) {
        for (String[] call : CALLS) {
            String head = "\n#### " + call[0] + "\n";
            int at = text.indexOf(head);
            due.holds("README.md has a section on " + call[0], at >= 0);
            if (at < 0) continue;
            section(call, text.substring(at + head.length()).split("(?m)^#+ ", 2)[0]);
        }
    }

    private static void section(String[] call, String section) {
        List<String> told = new ArrayList<>();
        Matcher bullet = BULLET.matcher(section);
        while (bullet.find()) told.add(bullet.group(1));
        due.holds(call[0] + " tells " + call[1] + ", in this order", String.join(" ", told).equals(call[1]));
        String name = call[0].substring(0, call[0].indexOf('('));
        TreeSet<String> shown = new TreeSet<>();
        for (String line : section.split("\n")) {
            Matcher example = EXAMPLE.matcher(line);
            if (example.matches() && example.group(1).equals(name)) shown.add(example.group(3));
        }
        due.holds(call[0] + " has an example for each constant", shown.containsAll(told));
        shown.removeAll(Arrays.asList("UNKNOWN", "OUTSIDE", "STATE", "NONE"));
        due.holds(call[0] + " has an example with an ordinary answer", !shown.isEmpty());
    }

    /** Each block of examples is of a new object. */
    private static void run(String block) {
        MainsLetters x = new MainsLetters();
        for (String line : block.split("\n")) {
            Matcher tones = ALL_TONES.matcher(line);
            if (tones.matches()) {
                Due.lose(x, Integer.parseInt(tones.group(1)), Integer.parseInt(tones.group(2)), Integer.parseInt(tones.group(3)));
                continue;
            }
            Matcher example = EXAMPLE.matcher(line);
            due.holds("can be run: " + line, example.matches());
            if (!example.matches()) continue;
            int[] numbers = Arrays.stream(example.group(2).split(", ")).mapToInt(Integer::parseInt).toArray();
            due.is("README.md: " + line, new Call(example.group(1), numbers).on(x), answer(example.group(3)));
        }
    }

    private static int answer(String told) {
        switch (told) {
            case "UNKNOWN": return -1;
            case "OUTSIDE": return -2;
            case "STATE": return -3;
            case "NONE": return -9;
            default: return Integer.parseInt(told);
        }
    }
}
