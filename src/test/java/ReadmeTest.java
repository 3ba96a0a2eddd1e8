import java.io.IOException;
import java.nio.file.Files;
import java.nio.file.Path;
import java.util.ArrayList;
import java.util.Collections;
import java.util.List;
import java.util.Map;
import java.util.TreeMap;
import java.util.TreeSet;
import java.util.regex.MatchResult;
import java.util.regex.Matcher;
import java.util.regex.Pattern;
import java.util.stream.Stream;

/**
 * README.md tells of each method of the document's face what it takes and which codes it answers, in the order of the
 * document; of each number of a what and of each reason; it names each test; and its examples answer as it says.
 */
public final class ReadmeTest {
    private static final Path README = Path.of("README.md");
    private static final Path DOCUMENT = Path.of("../shared/DOC.md");
    private static final Path TESTS = Path.of("src/test/java");

    private static final Pattern FACE = Pattern.compile("(?m)^    public (\\w+ (\\w+)\\(.*\\));$");
    private static final Pattern METHOD = Pattern.compile("(?m)^\\| `(\\w+ \\w+\\(.*?\\))` \\| (.+) \\| (.+) \\|$");
    private static final Pattern CODE = Pattern.compile("NONE|BAD|NOTHING|REFUSED for (?:\\d+(?:, | or )?)+");
    private static final Pattern REASON = Pattern.compile("(?m)^\\| (\\d+) \\| (.+) \\| (.+) \\|$");
    private static final Pattern TEST = Pattern.compile("(?m)^\\| `(\\w+)` \\| .+ \\|$");
    private static final Pattern EXAMPLE = Pattern.compile("(?s)```java\n(BowlsGreen green = new BowlsGreen\\(\\);\n.*?)```");
    private static final Pattern TYPED = Pattern.compile("for \\(char character : \"(.*)\"\\.toCharArray\\(\\)\\) \\{");
    private static final Pattern CALLED = Pattern.compile("green\\.(\\w+\\(.*\\)); +// (-?\\d+|[A-Z]+)(?:: .+)?");
    private static final Pattern WRITTEN = Pattern.compile("green\\.describe\\(.*\"(.+)\"");

    private final Check check = new Check();
    private final String readme;

    private ReadmeTest() throws IOException {
        readme = Files.readString(README);
    }

    private static List<String> all(Pattern pattern, int group, String text) {
        return pattern.matcher(text).results().map(result -> result.group(group)).toList();
    }

    private static List<String> sorted(List<String> texts) {
        List<String> sorted = new ArrayList<>(texts);
        Collections.sort(sorted);
        return sorted;
    }

    /** What stands in a text from a heading to the next one of its kind, empty if there is no such heading. */
    private static String under(String text, String kind, String heading) {
        for (String part : text.split("(?m)^" + kind + " ")) {
            if (part.startsWith(heading)) {
                return part;
            }
        }
        return "";
    }

    private void dueMethods(String document) {
        List<String> face = all(FACE, 1, document);
        check.dueText("the methods of README.md", sorted(all(METHOD, 1, readme)).toString(), sorted(face).toString());
        check.dueText("how an object is made", "" + readme.contains("`BowlsGreen()`"), "true");
        Map<String, String> answers = new TreeMap<>();
        METHOD.matcher(readme).results().forEach(row -> answers.put(row.group(1), row.group(3)));
        for (MatchResult method : FACE.matcher(document).results().toList()) {
            String promised = promisedAnswer(document, method.group(2));
            String told = answers.getOrDefault(method.group(1), "").replace("`", "");
            check.dueText(method.group(1) + " is promised an answer", "" + promised.isEmpty(), "false");
            check.dueText("the codes of " + method.group(1), all(CODE, 0, told).toString(), all(CODE, 0, promised).toString());
        }
    }

    /** The paragraph of a promise that tells what is returned. */
    private static String promisedAnswer(String document, String name) {
        Matcher promise = Pattern.compile("(?m)^## (Promise \\d+: " + name + ")$").matcher(document);
        if (promise.find()) {
            for (String paragraph : under(document, "##", promise.group(1) + "\n").split("\n\n")) {
                if (paragraph.startsWith("Returns ")) {
                    return paragraph;
                }
            }
        }
        return "";
    }

    private void dueConstants() {
        Map<String, Integer> constants = Map.of("NONE", BowlsGreen.NONE, "BAD", BowlsGreen.BAD, "REFUSED", BowlsGreen.REFUSED,
            "NOTHING", BowlsGreen.NOTHING);
        constants.forEach((name, number) -> {
            String row = "| `" + name + "` = " + number + " | ";
            check.dueText(row, "" + readme.contains(row), "true");
        });
    }

    /** A cell of the table of numbers is empty just if the class knows no such what. */
    private void dueNumbers() {
        CountedGreen x = new CountedGreen();
        x.rink(0, 9);
        x.wood(0, 0);
        List<String> rows = readme.lines().dropWhile(line -> !line.startsWith("| what | ")).skip(2)
            .takeWhile(line -> line.startsWith("| ")).toList();
        for (int what = 0; what <= rows.size(); what++) {
            String[] cells = what < rows.size() ? rows.get(what).split("\\|") : new String[0];
            int[] answers = {x.rinkOf(0, what), x.woodOf(0, what), x.clubOf(0, what), x.account(what)};
            for (int i = 0; i < answers.length; i++) {
                boolean isTold = i + 2 < cells.length && !cells[i + 2].isBlank();
                check.dueText("what " + what + " in column " + i, "" + isTold, "" + (answers[i] != BowlsGreen.BAD));
            }
        }
    }

    private void dueReasons(String document) {
        String reasons = under(document, "##", "Terms\n");
        List<String> told = all(REASON, 1, under(readme, "###", "Reasons\n"));
        for (int i = 0; i < told.size(); i++) {
            check.dueText("the reason in row " + i, told.get(i), "" + (i + 1));
        }
        int last = told.size();
        check.dueText("the last reason " + last, "" + reasons.contains("stands " + last + ", with"), "true");
        check.dueText("no reason " + (last + 1), "" + reasons.matches("(?s).*[ ;]" + (last + 1) + ", .*"), "false");
    }

    private void dueTests() throws IOException {
        TreeSet<String> tests = new TreeSet<>();
        try (Stream<Path> files = Files.list(TESTS)) {
            files.map(file -> file.getFileName().toString()).filter(name -> name.endsWith("Test.java"))
                .forEach(name -> tests.add(name.substring(0, name.length() - ".java".length())));
        }
        List<String> told = sorted(all(TEST, 1, under(readme, "##", "How to run its tests\n")));
        check.dueText("the tests", told.toString(), tests.toString());
    }

    private void dueExamples() {
        List<String> examples = all(EXAMPLE, 1, readme);
        check.due("examples", examples.size(), 2);
        for (String example : examples) {
            CountedGreen x = new CountedGreen();
            example.lines().skip(1).forEach(line -> dueLine(x, line));
        }
    }

    private void dueLine(CountedGreen x, String line) {
        Matcher typed = TYPED.matcher(line);
        Matcher called = CALLED.matcher(line);
        if (typed.matches()) {
            Check.type(x, typed.group(1));
        } else if (called.matches()) {
            Row row = Row.read(called.group(1)).get(0);
            check.due(line, row.call(x).longValue(), Row.number(called.group(2)));
        } else {
            boolean isOfLoop = line.equals("    green.append(character);") || line.equals("}");
            check.dueText(line + " is read", "" + isOfLoop, "true");
        }
        Matcher written = WRITTEN.matcher(line);
        if (written.lookingAt()) {
            check.dueText(line, Check.line(x), written.group(1));
        }
    }

    public static void main(String[] args) throws IOException {
        ReadmeTest test = new ReadmeTest();
        if (Files.exists(DOCUMENT)) {
            String document = Files.readString(DOCUMENT);
            test.dueMethods(document);
            test.dueReasons(document);
        } else {
            System.out.println("the methods are not compared: there is no " + DOCUMENT);
        }
        test.dueConstants();
        test.dueNumbers();
        test.dueTests();
        test.dueExamples();
        test.check.end();
    }
}
