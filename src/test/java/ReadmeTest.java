import java.io.IOException;
import java.lang.reflect.Method;
import java.lang.reflect.Modifier;
import java.nio.file.Files;
import java.nio.file.Path;
import java.util.Map;
import java.util.Set;
import java.util.TreeSet;
import java.util.regex.Matcher;
import java.util.regex.Pattern;
import java.util.stream.Stream;

/** README.md must fit the class and the tests: its example is run, and what it names must be there. */
public final class ReadmeTest {
    private static final Map<String, Integer> CONSTANTS = Map.of("NONE", GuestNoes.NONE, "UNKNOWN", GuestNoes.UNKNOWN,
        "OUTSIDE", GuestNoes.OUTSIDE, "NOT", GuestNoes.NOT, "FULL", GuestNoes.FULL);
    private static final Pattern CALL = Pattern.compile("x\\.(\\w+)\\(([^)]*)\\); +// (-?\\d+|[A-Z]+): .+");

    public static void main(String[] args) throws IOException, ReflectiveOperationException {
        String readme = Files.readString(Path.of("README.md"));
        example(between(readme, "```java\n", "```"));
        allCalls(between(readme, "### All calls\n", "\n## "));
        faults(between(readme, "| answer | the fault |", "### "));
        refusals(between(readme, "| refusal | when |", "### "));
        testsAndHelpers(between(readme, "## How to run its tests\n", "\u0000"));
        theScript(readme);
        Check.end("ReadmeTest");
    }

    private static String between(String all, String from, String to) {
        int start = all.indexOf(from);
        Check.holds("there is " + from.trim(), start >= 0);
        if (start < 0) {
            return "";
        }
        int end = all.indexOf(to, start + from.length());
        return all.substring(start + from.length(), end < 0 ? all.length() : end);
    }

    /** Each line behind the first three must be a call with its answer, so that none goes unlooked at. */
    private static void example(String block) throws ReflectiveOperationException {
        String[] lines = block.split("\n");
        Check.holds("the example has lines", lines.length > 3);
        Check.same("line 1", lines[0], "GuestNoes x = new GuestNoes();");
        Matcher text = Pattern.compile("String text = \"(.*)\";").matcher(lines[1]);
        Check.holds("line 2 is a text", text.matches());
        Check.same("line 3", lines[2], "for (int i = 0; i < text.length(); i++) x.feed(text.charAt(i));");
        GuestNoes x = new GuestNoes();
        Check.feedAll(x, text.group(1));
        for (int i = 3; i < lines.length; i++) {
            Matcher call = CALL.matcher(lines[i]);
            Check.holds("a call with its answer: " + lines[i], call.matches());
            if (call.matches()) {
                Check.is(lines[i], answer(x, call.group(1), call.group(2)), number(call.group(3)));
            }
        }
    }

    private static int answer(GuestNoes x, String name, String list) throws ReflectiveOperationException {
        String[] words = list.isEmpty() ? new String[0] : list.split(", ");
        Object[] values = new Object[words.length];
        for (int i = 0; i < words.length; i++) {
            boolean isTruth = words[i].equals("true") || words[i].equals("false");
            if (isTruth) {
                values[i] = words[i].equals("true");
            } else {
                values[i] = number(words[i].replace("GuestNoes.", ""));
            }
        }
        for (Method method : GuestNoes.class.getDeclaredMethods()) {
            if (Modifier.isPublic(method.getModifiers()) && method.getName().equals(name)) {
                return (int) method.invoke(x, values);
            }
        }
        throw new NoSuchMethodException(name);
    }

    private static int number(String word) {
        return CONSTANTS.containsKey(word) ? CONSTANTS.get(word) : Integer.parseInt(word);
    }

    /** The words in the first column, in backticks. */
    private static Set<String> firstColumn(String table) {
        Set<String> names = new TreeSet<>();
        for (String line : table.split("\n")) {
            if (line.startsWith("| `")) {
                names.addAll(inBackticks(line.split("\\|")[1]));
            }
        }
        return names;
    }

    private static Set<String> inBackticks(String text) {
        Set<String> names = new TreeSet<>();
        Matcher m = Pattern.compile("`(\\w+)`").matcher(text);
        while (m.find()) {
            names.add(m.group(1));
        }
        return names;
    }

    private static void allCalls(String part) {
        Set<String> due = new TreeSet<>();
        for (Method method : GuestNoes.class.getDeclaredMethods()) {
            if (Modifier.isPublic(method.getModifiers())) {
                due.add(method.getName());
            }
        }
        Check.same("all calls", firstColumn(part).toString(), due.toString());
    }

    private static void refusals(String part) {
        Check.same("refusals", firstColumn(part).toString(), "[FULL, NOT, OUTSIDE, UNKNOWN]");
    }

    /** One text for each fault that is told of there. */
    private static void faults(String part) {
        String[][] texts = {
            {"g0 0;", "t0;x", "t0"},
            {"t256;", "t0000;", "t0;g0 80;"},
            {"t0;t0;", "t0;" + "g0 0;".repeat(7), "t0;" + "h0 0;".repeat(5)},
        };
        for (int i = 0; i < texts.length; i++) {
            int answer = -11 - i;
            Check.holds(answer + " is told of", part.contains("\n| " + answer + " | "));
            for (String text : texts[i]) {
                Check.is(text, Check.read(new GuestNoes(), text), answer);
            }
        }
        Check.is("an empty text", new GuestNoes().evening(), 0);
    }

    private static void testsAndHelpers(String part) throws IOException {
        Set<String> tests = new TreeSet<>();
        Set<String> all = new TreeSet<>();
        try (Stream<Path> files = Files.list(Path.of("src/test/java"))) {
            for (Path file : files.toList()) {
                String name = file.getFileName().toString().replace(".java", "");
                all.add(name);
                if (name.endsWith("Test")) {
                    tests.add(name);
                }
            }
        }
        Check.same("tests", firstColumn(part).toString(), tests.toString());
        Set<String> named = inBackticks(part);
        // The programs that the tests are run with are named there, too.
        named.remove("javac");
        named.remove("java");
        Check.same("tests and helpers", named.toString(), all.toString());
    }

    private static void theScript(String readme) throws IOException {
        Path script = Path.of(".ci/run");
        Check.holds("README tells of it", readme.contains("```sh\n.ci/run\n```"));
        Check.holds("it can be run", Files.isExecutable(script));
        Check.holds("it says how many passed", Files.readString(script).contains("echo \"$passed passed, $failed failed\""));
    }
}
