import java.io.IOException;
import java.nio.file.Files;
import java.nio.file.Path;
import java.util.HashMap;
import java.util.Map;
import java.util.Set;
import java.util.TreeSet;
import java.util.regex.Matcher;
import java.util.regex.Pattern;
import java.util.stream.Stream;

/**
 * What README.md says is so: the calls that it shows are run and answer as it says, every call and every number of a
 * question is among them, the constants are as it says, and the tests that it names are those that are there.
 */
public final class ReadmeTest {
    private static final int MOST_CALLS = 512;
    private static final Pattern BLOCK = Pattern.compile("(?s)```java\n(.*?)```");
    private static final Pattern MADE = Pattern.compile("ModeratorsBench (\\w+) = new ModeratorsBench\\(\\);");
    /** A call with its answer behind it: a number, or the name of a constant. */
    private static final Pattern CALL = Pattern.compile(
        "(?:int (\\w+) = )?(\\w+)\\.(\\w+)\\(([\\w, -]*)\\); +// (-?\\d+|[A-Z]+)(?:: .+)?");
    private static final Pattern TEST_NAME = Pattern.compile("`(\\w+(?:Test|Edges))`");

    /** Questions with a number for what is asked, and how many such numbers there are. */
    private static final Map<String, Integer> QUESTIONS = Map.of("told", 8, "about", 8, "judged", 3, "writer", 7,
        "count", 6);

    private final Map<String, ModeratorsBench> benches = new HashMap<>();
    private final Map<String, Integer> numbers = new HashMap<>();
    private final Set<String> shown = new TreeSet<>();
    private int calls = 0;

    public static void main(String[] args) throws IOException, ReflectiveOperationException {
        String text = Files.readString(Path.of("README.md"));
        theCalls(text);
        theConstants(text);
        theTests(text);
        Due.end();
    }

    private static void theCalls(String text) throws ReflectiveOperationException {
        ReadmeTest run = new ReadmeTest();
        int blocks = 0;
        for (Matcher block = BLOCK.matcher(text); block.find(); blocks++) {
            for (String line : block.group(1).split("\n")) {
                run.read(line);
            }
        }
        Due.is("blocks of calls that end", blocks, text.split("```java", -1).length - 1);
        Due.holds("at most 512 calls are shown of one object", run.calls <= MOST_CALLS);
        for (String name : Calls.NAMES) {
            Due.holds("README.md shows " + name, run.shown.contains(name));
            for (int what = 0; what < QUESTIONS.getOrDefault(name, 0); what++) {
                Due.holds("README.md asks " + name + " for " + what, run.shown.contains(name + " " + what));
            }
        }
        Matcher outside = Pattern.compile("\\w+\\(-?\\d[^)]*\\)").matcher(BLOCK.matcher(text).replaceAll(" "));
        Due.holds("every call that is shown stands in a block that is run", !outside.find());
    }

    private void read(String line) throws ReflectiveOperationException {
        Matcher made = MADE.matcher(line);
        Matcher call = CALL.matcher(line);
        if (made.matches()) {
            Due.holds(line + " gives a new name", benches.put(made.group(1), new ModeratorsBench()) == null);
        } else if (call.matches() && benches.containsKey(call.group(2))) {
            run(line, call);
        } else {
            Due.holds("README.md: no call with its answer: " + line, line.isBlank());
        }
    }

    private void run(String line, Matcher call) throws ReflectiveOperationException {
        int kind = Calls.kindOf(call.group(3));
        String[] given = call.group(4).isEmpty() ? new String[0] : call.group(4).split(", ");
        Due.is("arguments of " + line, given.length, Calls.ARGUMENTS[kind]);
        int[] all = new int[4];
        for (int i = 0; i < given.length && i < all.length; i++) {
            all[i] = number(given[i]);
        }
        int answer = Calls.call(benches.get(call.group(2)), kind, all[0], all[1], all[2], all[3]);
        calls++;
        Due.is("README.md: " + line, answer, due(call.group(5)));
        if (call.group(1) != null) {
            Due.holds(line + " gives a new name", numbers.put(call.group(1), answer) == null);
        }
        shown.add(call.group(3));
        shown.add(call.group(3) + " " + (given.length == 0 ? "" : given[given.length - 1]));
    }

    private int number(String argument) {
        boolean named = numbers.containsKey(argument);
        Due.holds(argument + " is a number, or was told ahead", named || argument.matches("-?\\d+"));
        return named ? numbers.get(argument) : argument.matches("-?\\d+") ? Integer.parseInt(argument) : 0;
    }

    private static int due(String answer) throws ReflectiveOperationException {
        return answer.matches("-?\\d+") ? Integer.parseInt(answer) : constant(answer);
    }

    private static int constant(String name) throws ReflectiveOperationException {
        return ModeratorsBench.class.getField(name).getInt(null);
    }

    private static void theConstants(String text) throws ReflectiveOperationException {
        for (String name : new String[] {"NONE", "FULL", "THERE", "NOT"}) {
            Pattern told = Pattern.compile("`" + name + "`\\s\\(" + constant(name) + "\\b");
            Due.holds("README.md tells the number of " + name, told.matcher(text).find());
        }
    }

    private static void theTests(String text) throws IOException {
        Path tests = Path.of("src/test/java");
        Set<String> named = new TreeSet<>();
        for (Matcher name = TEST_NAME.matcher(text); name.find(); ) {
            named.add(name.group(1));
            Due.holds("there is " + name.group(1), Files.exists(tests.resolve(name.group(1) + ".java")));
        }
        try (Stream<Path> files = Files.list(tests)) {
            for (Path file : files.toList()) {
                String name = file.getFileName().toString().replace(".java", "");
                Due.holds("README.md names " + name, !name.endsWith("Test") || named.contains(name));
            }
        }
        Due.holds(".ci/run can be run", Files.isExecutable(Path.of(".ci/run")));
    }
}
