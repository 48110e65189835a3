import java.lang.reflect.Method;
import java.nio.file.Files;
import java.nio.file.Path;
import java.util.ArrayList;
import java.util.LinkedHashMap;
import java.util.List;
import java.util.Map;
import java.util.Set;
import java.util.TreeSet;
import java.util.regex.Matcher;
import java.util.regex.Pattern;

/** README.md tells every call of the document's face with the answers that the document gives it, and its example runs. */
public final class ReadmeTest {
    private static final Pattern EXAMPLE_CALL = Pattern.compile("film\\.(\\w+)\\(([-0-9, ]*)\\); +// (ZERO \\+ )?(-?\\d+|[A-Z]+):.*");
    private static final Pattern ROW = Pattern.compile("\\| `(\\w+)\\(([\\w, ]*)\\)` \\| (.*) \\| ?(.*?) ?\\|");
    private static int wrong = 0;

    public static void main(String[] args) throws Exception {
        String readme = Files.readString(Path.of("README.md"));
        String document = Files.readString(Path.of("../shared/DOC.md"));
        constants(readme);
        calls(readme, document);
        example(readme);
        testsAreNamed(readme);
        System.out.println(wrong == 0 ? "ReadmeTest: all as due" : "ReadmeTest: " + wrong + " wrong");
        if (wrong != 0) System.exit(1);
    }

    private static void must(boolean good, String what) {
        if (!good) {
            wrong++;
            System.out.println("README.md: not so: " + what);
        }
    }

    private static void constants(String readme) {
        must(readme.contains("| `BAD` | " + GapTellings.BAD + " |"), "the number of BAD");
        must(readme.contains("| `NO` | " + GapTellings.NO + " |"), "the number of NO");
        must(readme.contains("| `FULL` | " + GapTellings.FULL + " |"), "the number of FULL");
        must(readme.contains("| `NONE` | " + GapTellings.NONE + " |"), "the number of NONE");
        must(readme.contains("`ZERO` (" + GapTellings.ZERO + ")"), "the number of ZERO");
    }

    /** Each call has one row, with the document's arguments, its answers below zero, and ZERO where it has it. */
    private static void calls(String readme, String document) {
        Map<String, Matcher> rows = rows(readme);
        Matcher promise = Pattern.compile("`int (\\w+)\\(([^)]*)\\)`: (.*)").matcher(document);
        int promises = 0;
        while (promise.find()) {
            promises++;
            String name = promise.group(1);
            Matcher row = rows.remove(name);
            must(row != null, "a row for " + name);
            if (row == null) continue;
            must(row.group(2).equals(promise.group(2).replace("int ", "")), "the arguments of " + name);
            must(answersIn(row.group(4)).equals(answersIn(promise.group(3))), "the answers of " + name);
            must(row.group(3).contains("and ZERO") == promise.group(3).contains("and ZERO"), "ZERO of " + name);
        }
        must(promises == 27, "27 promises of calls in the document, not " + promises);
        must(rows.isEmpty(), "no row for what is no call: " + rows.keySet());
    }

    private static Map<String, Matcher> rows(String readme) {
        Map<String, Matcher> rows = new LinkedHashMap<>();
        for (String line : readme.split("\n")) {
            Matcher row = ROW.matcher(line);
            if (row.matches()) must(rows.put(row.group(1), row) == null, "one row alone for " + row.group(1));
        }
        return rows;
    }

    private static Set<String> answersIn(String text) {
        Set<String> answers = new TreeSet<>();
        Matcher word = Pattern.compile("\\b(BAD|NO|FULL|NONE)\\b").matcher(text);
        while (word.find()) answers.add(word.group());
        return answers;
    }

    /** Does what the example's lines do, one behind the other, and looks for the answer behind each. */
    private static void example(String readme) throws Exception {
        Matcher text = Pattern.compile("\"([^\"]*)\"\\.toCharArray").matcher(readme);
        must(text.find(), "a text in the example");
        GapTellings film = new GapTellings();
        for (char c : text.group(1).toCharArray()) film.write(c);
        List<String> ran = new ArrayList<>();
        for (String line : readme.split("\n")) {
            Matcher call = EXAMPLE_CALL.matcher(line);
            if (!call.matches()) continue;
            int got = answer(film, call.group(1), call.group(2));
            must(got == due(call.group(3), call.group(4)), line + " (it answered " + got + ")");
            ran.add(call.group(1));
        }
        must(ran.size() == 14, "14 calls in the example, not " + ran);
    }

    private static int answer(GapTellings film, String name, String arguments) throws Exception {
        String[] parts = arguments.isEmpty() ? new String[0] : arguments.split(", ");
        Class<?>[] types = new Class<?>[parts.length];
        Object[] values = new Object[parts.length];
        for (int i = 0; i < parts.length; i++) {
            types[i] = int.class;
            values[i] = Integer.parseInt(parts[i]);
        }
        Method method = GapTellings.class.getMethod(name, types);
        return (Integer) method.invoke(film, values);
    }

    private static int due(String zero, String answer) throws Exception {
        boolean isNumber = answer.matches("-?\\d+");
        int number = isNumber ? Integer.parseInt(answer) : GapTellings.class.getField(answer).getInt(null);
        return zero == null ? number : GapTellings.ZERO + number;
    }

    private static void testsAreNamed(String readme) throws Exception {
        try (var files = Files.list(Path.of("src/test/java"))) {
            for (Path file : files.toList()) {
                String name = file.getFileName().toString().replace(".java", "");
                must(readme.contains("`" + name + "`"), "the test file " + name);
            }
        }
        must(readme.contains("`.ci/run`"), "how to run the tests");
    }
}
