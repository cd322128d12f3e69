import java.io.IOException;
import java.nio.file.DirectoryStream;
import java.nio.file.Files;
import java.nio.file.Path;
import java.util.ArrayList;
import java.util.Arrays;
import java.util.HashMap;
import java.util.List;
import java.util.Map;
import java.util.regex.Matcher;
import java.util.regex.Pattern;

/** What README.md says of the class and its tests, held against the class, the document and the tests. */
public final class ReadmeTest {
    private static final Path TESTS = Path.of("src/test/java");
    private static final List<String> REFUSALS = List.of("NUMBER", "FULL", "KIND", "NONE", "STATE");

    private final Checks checks = new Checks();
    private final Document document = new Document();
    private final String page = Files.readString(Path.of("README.md"));

    private ReadmeTest() throws IOException {
    }

    public static void main(String[] args) throws IOException {
        ReadmeTest test = new ReadmeTest();
        test.example();
        test.refusals();
        test.noRefusals();
        test.names();
        test.checks.finish();
    }

    private void holds(String what, boolean fine) {
        checks.due(what, fine ? 1 : 0, 1);
    }

    /** Each line of the example is a call with its answer behind it; a name stands for an earlier answer. */
    private void example() {
        String block = page.replaceFirst("(?s).*?```java\n(.*?)```.*", "$1");
        String[] lines = block.split("\n");
        holds("the example makes an object first: " + lines[0], lines[0].equals("LoadYard yard = new LoadYard();"));
        Pattern form = Pattern.compile("(?:int (\\w+) = )?yard\\.(\\w+)\\(([^)]*)\\); +// (-?\\d+)(: .*)?");
        Yard yard = new Yard();
        Map<String, Integer> named = new HashMap<>();
        for (int at = 1; at < lines.length; at++) {
            Matcher m = form.matcher(lines[at]);
            boolean isCall = m.matches();
            holds("a call of the example with its answer: " + lines[at], isCall);
            if (isCall) {
                int got = yard.ask(m.group(2), numbers(m.group(3), named));
                checks.due(lines[at], got, Integer.parseInt(m.group(4)));
                named.put(String.valueOf(m.group(1)), got);
            }
        }
    }

    private static int[] numbers(String row, Map<String, Integer> named) {
        return Arrays.stream(row.split(", ")).filter(s -> !s.isEmpty())
            .mapToInt(s -> named.containsKey(s) ? named.get(s) : Integer.parseInt(s)).toArray();
    }

    /** The table has each constant with its number, the document's words for it, and the calls that name it. */
    private void refusals() {
        int number = 0;
        for (String refusal : REFUSALS) {
            number--;
            String row = "| `" + refusal + "` | " + number + " | " + document.meaning(refusal) + " | "
                + String.join(" ", callsThatName(refusal)) + " |";
            holds("the table has " + row, page.contains("\n" + row + "\n"));
        }
        checks.due("rows of the table", page.split("\n\\| `").length - 1, REFUSALS.size());
    }

    private List<String> callsThatName(String refusal) {
        // A refusal stands at a sentence's start or behind a semicolon: elsewhere "KIND" is the LOAD's.
        Pattern named = Pattern.compile("[.;)] " + refusal + "(: |\\.$)");
        List<String> calls = new ArrayList<>();
        for (int promise = 2; promise <= Document.PROMISES; promise++) {
            if (named.matcher(document.text(promise)).find()) {
                calls.add("`" + document.heading(promise) + "`");
            }
        }
        return calls;
    }

    private void noRefusals() {
        Yard apart = new Yard().with("net", 2).with("load", 1, 0, 1, 4);
        says("`told(load, 7)` answers -1 if the posts of the load have no way.", apart.ask("told", 0, 7), -1);
        says("`told(load, 8)` answers -1 of a load that isn't HELD.", apart.ask("told", 0, 8), -1);
        says("`barred()` answers -2 if the posts of a load have no way.", apart.ask("barred"), -2);
        String never = "`bars`, `whole` and `keep` never answer below 0";
        says(never, Math.min(apart.ask("bars"), 0), 0);
        says(never, Math.min(apart.ask("whole"), 0), 0);
        says(never, Math.min(apart.ask("keep"), 0), 0);
        Yard sent = new Yard().with("net", 2).with("road", 0, 1, 9, 1).with("load", 0, 0, 1, 4).with("load", 0, 1, 0, 3);
        sent.with("fill", 0).with("fill", 1);
        says("In `empty(-1)` the -1 means all loads.", sent.ask("empty", -1), 7);
    }

    private void says(String words, int got, int want) {
        holds("README.md says: " + words, page.contains(words));
        checks.due(words, got, want);
    }

    private void names() throws IOException {
        for (Class<?> inside : LoadYard.class.getDeclaredClasses()) {
            holds("README.md tells of " + inside, page.contains("\n- `" + inside.getSimpleName() + "`: "));
        }
        try (DirectoryStream<Path> files = Files.newDirectoryStream(TESTS, "*Test.java")) {
            for (Path file : files) {
                String name = file.getFileName().toString().replace(".java", "");
                holds("README.md tells of " + name, page.contains("\n- `" + name + "`: "));
            }
        }
        String model = Files.readString(TESTS.resolve("ModelTest.java"));
        String runs = model.replaceFirst("(?s).*RUNS = (\\d+);.*", "$1");
        holds("README.md tells of " + runs + " runs", page.contains("`ModelTest`: " + runs + " runs"));
    }
}
