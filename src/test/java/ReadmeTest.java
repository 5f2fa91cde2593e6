import java.io.IOException;
import java.lang.reflect.Method;
import java.nio.file.Files;
import java.nio.file.Path;
import java.util.ArrayList;
import java.util.LinkedHashMap;
import java.util.List;
import java.util.Map;
import java.util.regex.Matcher;
import java.util.regex.Pattern;
import java.util.stream.Stream;

/** README.md tells of every call and test what there is, and its examples answer as they say. */
final class ReadmeTest {
    private static final Path README = Path.of("README.md");
    private static final Path DOCUMENT = Path.of("../shared/DOC.md");
    private static final Path TESTS = Path.of("src/test/java");

    private static final Pattern SECTION =
        Pattern.compile("Ahead of the calls (.*?) the interface says: ---- ([a-z, ]+)[.;]");
    private static final Pattern NAME = Pattern.compile("`(\\w+)`");
    private static final Pattern ROW = Pattern.compile("\\| `(\\w+)\\((.*?)\\)` \\|.*\\|(.*)\\|");
    private static final Pattern THROWN = Pattern.compile("Index|Argument|State");
    private static final Pattern EXAMPLES = Pattern.compile("```java\n(.*?)```", Pattern.DOTALL);
    private static final Pattern TEXT = Pattern.compile("for \\(char c : \"(\\w+)\"\\.toCharArray\\(\\)\\) \\{");
    private static final Pattern ANSWERED =
        Pattern.compile("device\\.(.*\\)); +// (?:throws )?(-?\\d+|\\w+Exception)\\b.*");
    private static final List<String> UNANSWERED =
        List.of("LentRoom device = new LentRoom();", "device.append(c);", "}");

    public static void main(String[] args) throws IOException {
        String readme = Files.readString(README);
        tables(readme);
        examples(readme);
        tests(readme);
        Check.finish();
    }

    /** The calls stand in the document's sections and order, with what they throw in the order of the face. */
    private static void tables(String readme) throws IOException {
        Map<String, Method> face = new LinkedHashMap<>();
        for (Method method : LentRoom.class.getMethods()) {
            if (method.getDeclaringClass() == LentRoom.class) {
                face.put(method.getName(), method);
            }
        }
        int calls = 0;
        Matcher section = SECTION.matcher(Files.readString(DOCUMENT).replaceAll("\\s+", " "));
        while (section.find()) {
            List<String> due = new ArrayList<>();
            Matcher name = NAME.matcher(section.group(1));
            while (name.find()) {
                due.add(told(face.get(name.group(1))));
                calls++;
            }
            Check.same("README.md, ### " + section.group(2), rows(readme, section.group(2)).toString(), due.toString());
        }
        Check.same("the calls in the document's sections", String.valueOf(calls), String.valueOf(face.size()));
    }

    private static String told(Method method) {
        StringBuilder all = new StringBuilder(method.getName());
        all.append(' ').append(method.getParameterCount());
        for (Class<?> type : method.getExceptionTypes()) {
            all.append(' ').append(type.getSimpleName().replaceAll("Illegal|OutOfBounds|Exception", ""));
        }
        return all.toString();
    }

    private static List<String> rows(String readme, String heading) {
        List<String> rows = new ArrayList<>();
        boolean inside = false;
        for (String line : readme.split("\n")) {
            if (line.startsWith("#")) {
                inside = line.equals("### " + heading);
            }
            Matcher row = ROW.matcher(line);
            if (inside && row.matches()) {
                rows.add(row.group(1) + " " + (row.group(2).isEmpty() ? 0 : row.group(2).split(",").length)
                    + thrown(row.group(3)));
            }
        }
        return rows;
    }

    private static String thrown(String words) {
        StringBuilder all = new StringBuilder();
        Matcher word = THROWN.matcher(words);
        while (word.find()) {
            all.append(' ').append(word.group());
        }
        return all.toString();
    }

    private static void examples(String readme) {
        Matcher example = EXAMPLES.matcher(readme);
        int answers = 0;
        while (example.find()) {
            answers += answersOf(example.group(1));
        }
        Check.same("README.md has examples with answers", String.valueOf(answers > 0), "true");
    }

    /** Each example has an object of its own; returns how many answers it tells. */
    private static int answersOf(String example) {
        Run run = new Run();
        int answers = 0;
        for (String line : example.split("\n")) {
            Matcher text = TEXT.matcher(line);
            Matcher answered = ANSWERED.matcher(line);
            if (text.matches()) {
                run.call("text(" + text.group(1) + ")");
            } else if (answered.matches()) {
                answers++;
                String got = run.call(answered.group(1));
                Check.same("README.md, " + line, got.replace("throws.", ""), answered.group(2));
            } else {
                Check.same("README.md, the line \"" + line + "\" is understood",
                    String.valueOf(UNANSWERED.contains(line.trim())), "true");
            }
        }
        return answers;
    }

    private static void tests(String readme) throws IOException {
        try (Stream<Path> files = Files.list(TESTS)) {
            for (Path file : files.sorted().toList()) {
                String name = file.getFileName().toString().replace(".java", "");
                if (name.endsWith("Test")) {
                    Check.same("README.md names the test " + name, String.valueOf(readme.contains("`" + name + "`")),
                        "true");
                }
            }
        }
    }
}
