import java.io.IOException;
import java.lang.reflect.Method;
import java.lang.reflect.Modifier;
import java.nio.file.Files;
import java.nio.file.Path;
import java.util.HashMap;
import java.util.List;
import java.util.Map;
import java.util.regex.Matcher;
import java.util.regex.Pattern;
import java.util.stream.Stream;

/** README.md: each call there answers as it says, and its tables name every method and every test. */
public final class ReadmeTest {
    private static final String NEW = "TalkingReels x = new TalkingReels();";
    private static final Pattern CALL =
        Pattern.compile("(?:int (\\w+) = )?x\\.(\\w+)\\((.*)\\); +// (true|false|-?\\d+)(?::.*)?");
    private static final Map<String, Integer> NAMED = new HashMap<>();
    private static Caller caller;
    private static int calls = 0;

    public static void main(String[] args) throws IOException {
        List<String> page = Files.readAllLines(Path.of("README.md"));
        examples(page);
        methods(page);
        tests(page);
        Check.finish();
    }

    private static void examples(List<String> page) {
        boolean inside = false;
        for (String line : page) {
            if (line.startsWith("```")) {
                inside = line.equals("```java");
            } else if (inside && line.equals(NEW)) {
                caller = new Caller(new TalkingReels());
                NAMED.clear();
            } else if (inside) {
                call(line);
            }
        }
        Check.holds("there are calls in README.md", calls > 0);
    }

    private static void call(String line) {
        Matcher parts = CALL.matcher(line);
        boolean told = parts.matches() && caller != null;
        Check.holds("this is a call with its answer: " + line, told);
        if (!told) {
            return;
        }
        long answer = caller.call(parts.group(2), numbers(parts.group(3)));
        if (parts.group(1) != null) {
            NAMED.put(parts.group(1), (int) answer);
        }
        Check.due(line, answer, number(parts.group(4)));
        calls++;
    }

    private static int[] numbers(String list) {
        String[] words = list.split(", ");
        int[] all = new int[words.length];
        for (int i = 0; i < words.length; i++) {
            all[i] = number(words[i]);
        }
        return all;
    }

    private static int number(String word) {
        if (word.equals("true") || word.equals("false")) {
            return word.equals("true") ? 1 : 0;
        }
        return NAMED.containsKey(word) ? NAMED.get(word) : Long.decode(word).intValue();
    }

    private static void methods(List<String> page) {
        for (Method m : TalkingReels.class.getDeclaredMethods()) {
            if (Modifier.isPublic(m.getModifiers())) {
                Check.holds("a table of README.md names " + m.getName(), inTable(page, m.getName()));
            }
        }
    }

    private static void tests(List<String> page) throws IOException {
        try (Stream<Path> files = Files.list(Path.of("src/test/java"))) {
            files.map(file -> file.getFileName().toString()).filter(name -> name.endsWith("Test.java")).forEach(name ->
                Check.holds("a table of README.md names " + name, inTable(page, name.replace(".java", ""))));
        }
    }

    private static boolean inTable(List<String> page, String name) {
        return page.stream().anyMatch(line -> line.startsWith("|") && line.contains("`" + name + "`"));
    }
}
