import java.io.IOException;
import java.lang.reflect.Method;
import java.nio.file.Files;
import java.nio.file.Path;
import java.util.ArrayList;
import java.util.HashMap;
import java.util.List;
import java.util.Map;
import java.util.regex.Matcher;
import java.util.regex.Pattern;
import java.util.stream.Stream;

/** README.md: its examples answer the number that begins the comment, and it names what a user needs. */
public final class ReadmeTest extends Check {
    /** A line that keeps its answer tells it, too. */
    private static final Pattern KEPT =
        Pattern.compile("(?:int|long) (\\w+) = x\\.(\\w+)\\(([^)]*)\\);\\s*// (-?\\d+)\\b.*");
    private static final Pattern CALLED = Pattern.compile("x\\.(\\w+)\\(([^)]*)\\);.*");
    private static final String[] NAMED = {
        "new TwoGames()", "at most 512 calls", "`finding()`", "`findings(f)`", "`upper()`", "`lower()`",
        ".ci/run", "src/test/java", "../shared/tests", "../shared/DOC.md"};

    public static void main(String[] args) throws Exception {
        String text = Files.readString(Path.of("README.md"));
        examples(text);
        answers(text);
        for (String name : NAMED) {
            dueNamed(text, name);
        }
        tests(text);
        end("ReadmeTest");
    }

    private static void dueNamed(String text, String name) {
        due("README.md names " + name, text.contains(name) ? 1 : 0, 1);
    }

    private static void answers(String text) {
        dueNamed(text, "| `BAD` | " + TwoGames.BAD + " |");
        dueNamed(text, "| `FULL` | " + TwoGames.FULL + " |");
        dueNamed(text, "| `FINDING` | " + TwoGames.FINDING + " |");
        dueNamed(text, "| `STATE` | " + TwoGames.STATE + " |");
        dueNamed(text, "| `NONE` | " + TwoGames.NONE + " |");
        dueNamed(text, "| " + NOTHING + " | NOTHING |");
        dueNamed(text, "| " + BEYOND + " | BEYOND |");
        dueNamed(text, "| " + UNLIKE + " | UNLIKE |");
        dueNamed(text, "| " + NOUGHT + " | NOUGHT |");
        dueNamed(text, "| " + SIZE + " | SIZE |");
    }

    private static void tests(String text) throws IOException {
        try (Stream<Path> files = Files.list(Path.of("src/test/java"))) {
            files.forEach(file -> dueNamed(text, "`" + file.getFileName().toString().replace(".java", "") + "`"));
        }
    }

    /** All examples are one run of calls on one object, x. */
    private static void examples(String text) throws Exception {
        TwoGames x = new TwoGames();
        Map<String, Integer> known = new HashMap<>();
        int told = 0;
        for (String line : javaLines(text)) {
            Matcher kept = KEPT.matcher(line);
            Matcher called = CALLED.matcher(line);
            if (kept.matches()) {
                long got = answer(x, kept.group(2), kept.group(3), known);
                known.put(kept.group(1), (int) got);
                due("README.md: " + line, got, Long.parseLong(kept.group(4)));
                told++;
            } else if (called.matches()) {
                answer(x, called.group(1), called.group(2), known);
            } else {
                dueNewObject(line);
            }
        }
        due("README.md: more than ten examples", told > 10 ? 1 : 0, 1);
    }

    private static void dueNewObject(String line) {
        due("README.md: no call that tells its answer: " + line, line.contains("x = new TwoGames();") ? 1 : 0, 1);
    }

    private static List<String> javaLines(String text) {
        List<String> lines = new ArrayList<>();
        Matcher block = Pattern.compile("(?s)```java\n(.*?)```").matcher(text);
        while (block.find()) {
            lines.addAll(block.group(1).lines().toList());
        }
        return lines;
    }

    private static long answer(TwoGames x, String name, String list, Map<String, Integer> known) throws Exception {
        String[] texts = list.isEmpty() ? new String[0] : list.split(", ");
        Object[] numbers = new Object[texts.length];
        Class<?>[] types = new Class<?>[texts.length];
        for (int i = 0; i < texts.length; i++) {
            numbers[i] = known.containsKey(texts[i]) ? known.get(texts[i]) : Integer.valueOf(texts[i]);
            types[i] = int.class;
        }
        Method method = TwoGames.class.getMethod(name, types);
        return ((Number) method.invoke(x, numbers)).longValue();
    }
}
