import java.io.File;
import java.nio.file.Path;
import java.util.ArrayList;
import java.util.HashMap;
import java.util.List;
import java.util.Map;
import java.util.Set;
import java.util.TreeSet;
import java.util.regex.Matcher;
import java.util.regex.Pattern;

/** What README.md shows of the use of the class answers as it says; and it tells of all tests. */
public final class ReadmeTest {
    private static final Path PLACE = Path.of("README.md");
    private static final String FENCE = "```";
    private static final String FIRST_LINE = "SeatOffice office = new SeatOffice();";
    /** "int ann = office.pupil(1, false); // 0: in words": name, method, arguments and answer. */
    private static final Pattern CALL = Pattern.compile(
            "(?:int (\\w+) = )?office\\.(\\w+)\\(([^()]*)\\); *// (throws \\w+|[-\\w]+)(?:: .*)?");
    private static final Set<String> METHODS = Set.of("school", "kind", "pupil", "wish", "draw", "run", "answer",
            "stay", "chain", "appeal", "over", "seat", "held", "blocking", "envies", "why", "look");

    private final Office office = new Office();
    private final Map<String, String> names = new HashMap<>();
    private final Set<String> called = new TreeSet<>();

    public static void main(String[] args) {
        new ReadmeTest().useOfTheClass();
        howToRunTests();
        Check.end();
    }

    private void useOfTheClass() {
        Check.part("README.md, the use of the class");
        List<String> lines = block("java");
        Check.text("its first line", lines.isEmpty() ? "" : lines.get(0), FIRST_LINE);
        for (String line : lines.subList(Math.min(1, lines.size()), lines.size())) {
            if (!line.isEmpty() && !line.startsWith("//")) {
                call(line);
            }
        }
        Check.text("the calls that it shows", called.toString(), new TreeSet<>(METHODS).toString());
        Check.yes("no more calls than the document promises", office.calls() <= Office.MOST_CALLS);
    }

    private void call(String line) {
        Matcher told = CALL.matcher(line);
        if (!told.matches()) {
            Check.wrong("no call with its answer: " + line);
            return;
        }
        called.add(told.group(2));
        String got = office.say(told.group(2), arguments(told.group(3)));
        Check.text(line, got, due(told.group(4)));
        if (told.group(1) != null) {
            names.put(told.group(1), got);
        }
    }

    private int[] arguments(String told) {
        if (told.isEmpty()) {
            return new int[0];
        }
        String[] words = told.split(", ");
        int[] all = new int[words.length];
        for (int i = 0; i < all.length; i++) {
            all[i] = argument(words[i]);
        }
        return all;
    }

    private int argument(String word) {
        if (word.equals("true") || word.equals("false")) {
            return word.equals("true") ? 1 : 0;
        }
        return Integer.parseInt(names.getOrDefault(word, word));
    }

    private static String due(String told) {
        switch (told) {
            case "throws IllegalArgumentException": return "argument";
            case "throws IllegalStateException": return "state";
            default: return told;
        }
    }

    private static void howToRunTests() {
        Check.part("README.md, how to run the tests");
        Check.text("the command", block("sh").toString(), "[.ci/run]");
        Check.yes(".ci/run can be run", new File(".ci/run").canExecute());
        String all = String.join("\n", Document.lines(PLACE));
        String[] files = new File("src/test/java").list();
        Check.yes("tests", files != null && files.length > 0);
        for (String file : files) {
            String name = file.replace(".java", "");
            Check.yes(name + " is told of", all.contains("`" + name + "`"));
        }
    }

    /** The lines of the first block in a language. */
    private static List<String> block(String language) {
        List<String> all = new ArrayList<>();
        boolean inside = false;
        for (String line : Document.lines(PLACE)) {
            if (inside && line.startsWith(FENCE)) {
                return all;
            }
            if (inside) {
                all.add(line);
            }
            inside |= line.equals(FENCE + language);
        }
        return all;
    }
}
